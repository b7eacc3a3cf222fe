theorem opt_c (o : Option Nat) : o = none ∨ ∃ v, o = some v := by cases o with | none => exact Or.inl rfl | some v => exact Or.inr ⟨v, rfl⟩
def v_cost (J : Js) (g : Option Nat) : Int32 := match g with
  | none => -1
  | some v => j_co J v
set_option maxHeartbeats 4000000 in
set_option maxRecDepth 100000 in
theorem k_X4_costOf (l : Launch) (D : va_G) (cy : Nat → ClassId) (ad aw : Nat → Nat) (σ : Sg) (J : Js) (g : Option Nat) (hg : ∀ v, g = some v → v < 2048) : MR l yX4_costOf qX4_costOf 0 [.ref (ad 11), .int (oI (g))] D cy (cw cy ad aw σ J) (v_cost J g) := by
  refine Met.ofW (cc := cX4_costOf) (maxL := 2) (ret := (some .int)) (by decide) rfl ?_
  intro p e s m args below meth c s₁ B hml hv
  obtain ⟨rfl, hP, hK, hN⟩ := hv
  have hx := B.exec
  have hb := B.bytes
  have hr := B.returns
  have hlocks := B.notSynchronized
  have hts : ∀ cq ∈ tg, cq.before ([.ref (ad 11), .int (oI (g))] : List Value).toArray s = true := fun cq h => atoms_spec (ws := qX4_costOf) B.pre cq (List.mem_cons_of_mem _ h)
  have hown : s.vm.findClass RX4 = some m.cls := findClass_of_methodNamed B.named
  have hl := lv_entry ([.ref (ad 11), .int (oI (g))]) (n := 2) (Nat.le_of_ble_eq_true rfl)
  rw [lg_entry_eq]
  generalize (lg_sl ([.ref (ad 11), .int (oI (g))]) ++ List.replicate (2 - (lg_sl ([.ref (ad 11), .int (oI (g))])).length) Slot.unset).toArray = ls at hl ⊢
  have hl : lv_has ls 2 [(0, .ref (ad 11)), (1, .int (oI (g)))] := hl
  rcases opt_c (g) with hqv | ⟨v, hqv⟩
  · rw [hqv] at hl
    have hl : lv_has ls 2 [(0, .ref (ad 11)), (1, .int (-1))] := hl
    refine lv_iload_n hx hb dX4_costOf_0 rfl (lv_at hl 1 rfl) ?_
    refine lv_iconst (v := -1) hx hb dX4_costOf_1 (by decide) ?_
    refine lv_icmp_ne (tgt := 9) hx hb dX4_costOf_2 (by decide) (fun c => absurd rfl c) (fun _ => ?_)
    refine lv_iconst (v := -1) hx hb dX4_costOf_5 (by decide) ?_
    refine lv_goto (tgt := 15) hx hb dX4_costOf_6 (by decide) ?_
    exact rt_i hx hb hr hlocks (by rw [hqv]; rfl) dX4_costOf_15
  · rw [hqv] at hl
    have hl : lv_has ls 2 [(0, .ref (ad 11)), (1, .int (nI (v)))] := hl
    have hltv := (hg _) hqv
    refine lv_iload_n hx hb dX4_costOf_0 rfl (lv_at hl 1 rfl) ?_
    refine lv_iconst (v := -1) hx hb dX4_costOf_1 (by decide) ?_
    refine lv_icmp_ne (tgt := 9) hx hb dX4_costOf_2 (by decide) (fun _ => ?_) (fun c => absurd c (m1_ne _ (by omega)))
    refine lv_aload_n hx hb dX4_costOf_9 rfl (lv_at hl 0 rfl) ?_
    refine va_get (D := D) (ci := 4) (v := .ref (ad 14)) (C := RX4) (T := TX4) (N := 8) hx hb hts ni4 hown hK hP 11 (cw_c11 cy ad aw σ J) rfl 3 (by decide) (hts _ flX4_18) (fun _ h => h) rfl dX4_costOf_10 ?_
    refine lv_iload_n hx hb dX4_costOf_13 rfl (lv_at hl 1 rfl) ?_
    refine ln_iald (v := (j_co J v)) hx hb hK hP 14 (cw_c14 cy ad aw σ J) (by omega) (by decide) rfl dX4_costOf_14 ?_
    exact rt_i hx hb hr hlocks (by rw [hqv]; rfl) dX4_costOf_15
theorem dec1 (a k : Nat) : nI (a + (k + 1)) + Int32.ofInt (-1) = nI (a + k) := pk_m1 (a + k)
def v_crs (B : Bf) (g : Option Nat) (j : Nat) : Int32 := match g with
  | none => -1
  | some v => if nI ((b_d B v).getD 0) ≤ nI j then -1 else nI (b_w B (bck (b_p B) ((b_d B v).getD 0 - 1 - j) v))
set_option maxHeartbeats 4000000 in
set_option maxRecDepth 100000 in
theorem k_X4_crossingTo (l : Launch) (D : va_G) (cy : Nat → ClassId) (ad aw : Nat → Nat) (σ : Sg) (J : Js) (B : Bf) (g : Option Nat) (j0 : Nat) (hra : raJ B J) (hok : bInv B) (hg : ∀ v, g = some v → v < 2048 ∧ ∃ d, b_d B v = some d) (hj0 : j0 < 2 ^ 31) : MR l yX4_crossingTo qX4_crossingTo 2 [.ref (ad 11), .int (oI (g)), .int (nI (j0))] D cy (cw cy ad aw σ J) (v_crs B g j0) := by
  refine Met.ofW (cc := cX4_crossingTo) (maxL := 5) (ret := (some .int)) (by decide) rfl ?_
  intro p e s m args below meth c s₁ Bd hml hv
  obtain ⟨rfl, hP, hK, hN⟩ := hv
  have hx   := Bd.exec
  have hb   := Bd.bytes
  have hr   := Bd.returns
  have hlocks   := Bd.notSynchronized
  have hts : ∀ cq ∈ tg, cq.before ([.ref (ad 11), .int (oI (g)), .int (nI (j0))] : List Value).toArray s = true := fun cq h => atoms_spec (ws := qX4_crossingTo  ) Bd.pre cq (List.mem_cons_of_mem _ h)
  have hown : s.vm.findClass RX4 = some m.cls := findClass_of_methodNamed Bd.named
  have hl := lv_entry ([.ref (ad 11), .int (oI (g)), .int (nI (j0))]) (n := 5) (Nat.le_of_ble_eq_true rfl)
  rw [lg_entry_eq]
  generalize (lg_sl ([.ref (ad 11), .int (oI (g)), .int (nI (j0))]) ++ List.replicate (5 - (lg_sl ([.ref (ad 11), .int (oI (g)), .int (nI (j0))])).length) Slot.unset).toArray = ls at hl ⊢
  have hl : lv_has ls 5 [(0, .ref (ad 11)), (1, .int (oI (g))), (2, .int (nI (j0)))] := hl
  rcases opt_c (g) with hqv | ⟨v, hqv⟩
  · rw [hqv] at hl
    have hl : lv_has ls 5 [(0, .ref (ad 11)), (1, .int (-1)), (2, .int (nI (j0)))] := hl
    refine lv_iload_n hx hb dX4_crossingTo_0 rfl (lv_at hl 1 rfl) ?_
    refine lv_iconst (v := -1) hx hb dX4_crossingTo_1 (by decide) ?_
    refine lv_icmp_eq (tgt := 15) hx hb dX4_crossingTo_2 (by decide) (fun _ => ?_) (fun c => absurd rfl c)
    refine lv_iconst (v := -1) hx hb dX4_crossingTo_15 (by decide) ?_
    exact rt_i hx hb hr hlocks (by first | (rw [hqv]; rfl; done) | (rw [hqv, v_crs]; rw [hdv, if_pos ((nI_leI (show (some dv).getD 0 < 2 ^ 31 from (by show dv < _; omega)) hj0).mpr c12)])) dX4_crossingTo_16
  · rw [hqv] at hl
    have hl : lv_has ls 5 [(0, .ref (ad 11)), (1, .int (nI (v))), (2, .int (nI (j0)))] := hl
    have hltv := (hg _) hqv
    refine lv_iload_n hx hb dX4_crossingTo_0 rfl (lv_at hl 1 rfl) ?_
    refine lv_iconst (v := -1) hx hb dX4_crossingTo_1 (by decide) ?_
    refine lv_icmp_eq (tgt := 15) hx hb dX4_crossingTo_2 (by decide) (fun c => absurd c (m1_ne _ (by omega))) (fun _ => ?_)
    obtain ⟨hltv, dv, hdv⟩ := hltv
    have hdl := bd_lt hok hdv
    refine lv_iload_n hx hb dX4_crossingTo_5 rfl (lv_at hl 2 rfl) ?_
    refine lv_aload_n hx hb dX4_crossingTo_6 rfl (lv_at hl 0 rfl) ?_
    refine va_get (D := D) (ci := 4) (v := .ref (ad 14)) (C := RX4) (T := TX4) (N := 8) hx hb hts ni4 hown hK hP 11 (cw_c11 cy ad aw σ J) rfl 3 (by decide) (hts _ flX4_18) (fun _ h => h) rfl dX4_crossingTo_7 ?_
    refine lv_iload_n hx hb dX4_crossingTo_10 rfl (lv_at hl 1 rfl) ?_
    refine ln_iald (v := (j_co J v)) hx hb hK hP 14 (cw_c14 cy ad aw σ J) (by omega) (by decide) rfl dX4_crossingTo_11 ?_
    refine ln_eq (show (j_co J v) = (nI (dv)) from by rw [hra.1 _ hltv, hdv]) ?_
    refine ln_icmp_lt (tgt := 17) hx hb dX4_crossingTo_12 (by decide) (by omega) (by omega) (fun c12 => ?_) (fun c12 => ?_)
    · refine lv_iload_n hx hb dX4_crossingTo_17 rfl (lv_at hl 1 rfl) ?_
      refine lv_istore_n (lv' := [(3, .int (nI (v))), (0, .ref (ad 11)), (1, .int (nI (v))), (2, .int (nI (j0)))]) hx hb dX4_crossingTo_18 rfl hl (by decide) rfl (fun ls hl => ?_)
      refine lv_aload_n hx hb dX4_crossingTo_19 rfl (lv_at hl 1 rfl) ?_
      refine va_get (D := D) (ci := 4) (v := .ref (ad 14)) (C := RX4) (T := TX4) (N := 8) hx hb hts ni4 hown hK hP 11 (cw_c11 cy ad aw σ J) rfl 3 (by decide) (hts _ flX4_18) (fun _ h => h) rfl dX4_crossingTo_20 ?_
      refine lv_iload_n hx hb dX4_crossingTo_23 rfl (lv_at hl 2 rfl) ?_
      refine ln_iald (v := (j_co J v)) hx hb hK hP 14 (cw_c14 cy ad aw σ J) (by omega) (by decide) rfl dX4_crossingTo_24 ?_
      refine ln_eq (show (j_co J v) = (nI (dv)) from by rw [hra.1 _ hltv, hdv]) ?_
      refine lv_iconst (v := nI 1) hx hb dX4_crossingTo_25 (by decide) ?_
      refine ln_isub hx hb dX4_crossingTo_26 (by omega) ?_
      refine lv_istore (lv' := [(4, .int (nI (dv - 1))), (3, .int (nI (v))), (0, .ref (ad 11)), (1, .int (nI (v))), (2, .int (nI (j0)))]) hx hb dX4_crossingTo_27 hl (by decide) rfl (fun ls hl => ?_)
      have lp : ∀ (k at_ : Nat) (ls : Array Slot), b_d B at_ = some (j0 + 1 + k) → at_ < 2048 → bck (b_p B) k at_ = bck (b_p B) (dv - 1 - j0) v → lv_has ls 5 [(4, .int (nI (j0 + k))), (3, .int (nI (at_))), (0, .ref (ad 11)), (2, .int (nI (j0)))] → W p l e (headSpec qX4_crossingTo (rq 2)).room s m ([.ref (ad 11), .int (oI (g)), .int (nI (j0))] : List Value).toArray below meth c s.heap [] 0 0 (MQ below (vp_Si (fun r => r = v_crs B g j0)) ([.ref (ad 11), .int (oI (g)), .int (nI (j0))] : List Value).toArray s 0 0 (fun _ => False)) (F0 m 29 ls []) := by
        intro k
        induction k with
        | zero =>
          intro at_ ls hat hlt hbk hl
          have hdl := bd_lt hok hat
          obtain ⟨hb1, hb2, fb, xb, hfb, hxb, hwb, hpb⟩ := hok.2.2.2.2 at_ j0 (hat.trans (congrArg some (by omega)))
          have hrb := hra.2 at_ j0 (hat.trans (congrArg some (by omega)))
          have hsm : at_ % 256 < 256 := Nat.mod_lt _ (by decide)
          refine lv_iload hx hb dX4_crossingTo_29 (lv_at hl 0 rfl) ?_
          refine lv_iload_n hx hb dX4_crossingTo_31 rfl (lv_at hl 3 rfl) ?_
          refine ln_icmp_le (tgt := 62) hx hb dX4_crossingTo_32 (by decide) (by omega) (by omega) (fun c32 => ?_) (fun c32 => ?_)
          · refine lv_aload_n hx hb dX4_crossingTo_62 rfl (lv_at hl 2 rfl) ?_
            refine va_get (D := D) (ci := 4) (v := .ref (ad 15)) (C := RX4) (T := TX4) (N := 8) hx hb hts ni4 hown hK hP 11 (cw_c11 cy ad aw σ J) rfl 4 (by decide) (hts _ flX4_21) (fun _ h => h) rfl dX4_crossingTo_63 ?_
            refine lv_iload_n hx hb dX4_crossingTo_66 rfl (lv_at hl 1 rfl) ?_
            refine ln_iald (v := (j_cb J at_)) hx hb hK hP 15 (cw_c15 cy ad aw σ J) (by omega) (by decide) rfl dX4_crossingTo_67 ?_
            refine ln_eq (show (j_cb J at_) = (nI (b_w B at_)) from hrb) ?_
            exact rt_i hx hb hr hlocks (by rw [hqv, v_crs]; rw [hdv, if_neg (fun q => absurd ((nI_leI (show (some dv).getD 0 < 2 ^ 31 from (by show dv < _; omega)) hj0).mp q) (by show ¬ dv ≤ j0; omega))]; show _ = nI (b_w B (bck (b_p B) (dv - 1 - j0) v)); rw [← hbk]; rfl) dX4_crossingTo_68
          · exact absurd c32 (by omega)
        | succ k ih =>
          intro at_ ls hat hlt hbk hl
          have hdl := bd_lt hok hat
          obtain ⟨hb1, hb2, fb, xb, hfb, hxb, hwb, hpb⟩ := hok.2.2.2.2 at_ (j0 + 1 + k) (hat.trans (congrArg some (by omega)))
          have hrb := hra.2 at_ (j0 + 1 + k) (hat.trans (congrArg some (by omega)))
          have hsm : at_ % 256 < 256 := Nat.mod_lt _ (by decide)
          refine lv_iload hx hb dX4_crossingTo_29 (lv_at hl 0 rfl) ?_
          refine lv_iload_n hx hb dX4_crossingTo_31 rfl (lv_at hl 3 rfl) ?_
          refine ln_icmp_le (tgt := 62) hx hb dX4_crossingTo_32 (by decide) (by omega) (by omega) (fun c32 => ?_) (fun c32 => ?_)
          · exact absurd c32 (by omega)
          · refine lv_aload_n hx hb dX4_crossingTo_35 rfl (lv_at hl 2 rfl) ?_
            refine va_get (D := D) (ci := 4) (v := .ref (ad 15)) (C := RX4) (T := TX4) (N := 8) hx hb hts ni4 hown hK hP 11 (cw_c11 cy ad aw σ J) rfl 4 (by decide) (hts _ flX4_21) (fun _ h => h) rfl dX4_crossingTo_36 ?_
            refine lv_iload_n hx hb dX4_crossingTo_39 rfl (lv_at hl 1 rfl) ?_
            refine ln_iald (v := (j_cb J at_)) hx hb hK hP 15 (cw_c15 cy ad aw σ J) (by omega) (by decide) rfl dX4_crossingTo_40 ?_
            refine ln_eq (show (j_cb J at_) = (nI (256 * fb + xb)) from by rw [hrb, hwb]) ?_
            refine lv_iconst (v := -1) hx hb dX4_crossingTo_41 (by decide) ?_
            refine lv_icmp_eq (tgt := 62) hx hb dX4_crossingTo_42 (by decide) (fun c => absurd c (m1_ne _ (by omega))) (fun _ => ?_)
            refine lv_iload_n hx hb dX4_crossingTo_45 rfl (lv_at hl 1 rfl) ?_
            refine ln_nat (show at_ = at_ % 256 + 256 * (at_ / 256) from (Nat.mod_add_div _ _).symm) ?_
            refine lv_aload_n hx hb dX4_crossingTo_46 rfl (lv_at hl 2 rfl) ?_
            refine va_get (D := D) (ci := 4) (v := .ref (ad 15)) (C := RX4) (T := TX4) (N := 8) hx hb hts ni4 hown hK hP 11 (cw_c11 cy ad aw σ J) rfl 4 (by decide) (hts _ flX4_21) (fun _ h => h) rfl dX4_crossingTo_47 ?_
            refine lv_iload_n hx hb dX4_crossingTo_50 rfl (lv_at hl 1 rfl) ?_
            refine ln_iald (v := (j_cb J at_)) hx hb hK hP 15 (cw_c15 cy ad aw σ J) (by omega) (by decide) rfl dX4_crossingTo_51 ?_
            refine ln_eq (show (j_cb J at_) = (nI (256 * fb + xb)) from by rw [hrb, hwb]) ?_
            refine cr_sn (host := "NumberFerries") (n := 2) (As := [.int (nI (at_ % 256 + 256 * (at_ / 256))), .int (nI (256 * fb + xb))]) (rest := []) ⟨hx, hb, hml, hown, hts⟩ (k_X10_banksBehind l (at_ % 256) (at_ / 256) fb xb (by omega) (by omega) (by omega) (by omega)) (hN _ (List.mem_of_getElem? (i := 5) rfl)) (hts _ smX10_banksBehind) (hts _ iniX10) (gc_of cdX10_banksBehind) (by decide +kernel) ⟨Nat.le_of_ble_eq_true rfl, Nat.le_of_ble_eq_true rfl⟩ rfl hl.1 rfl (Nat.le_of_ble_eq_true rfl) dX4_crossingTo_52 ⟨Nat.zero_le _, Nat.zero_le _⟩ ?_
            refine ln_nat (show ((at_ % 256) ^^^ xb) + 256 * ((at_ / 256) ^^^ 2 ^ fb) = b_p B at_ from by rw [← bb_eq hsm hxb, Nat.mod_add_div, hpb]; rfl) ?_
            refine lv_istore_n (lv' := [(3, .int (nI (b_p B at_))), (4, .int (nI (j0 + (k + 1)))), (0, .ref (ad 11)), (2, .int (nI (j0)))]) hx hb dX4_crossingTo_55 rfl hl (by decide) rfl (fun ls hl => ?_)
            refine lv_iinc (v := nI (j0 + k)) (lv' := [(4, .int (nI (j0 + k))), (3, .int (nI (b_p B at_))), (0, .ref (ad 11)), (2, .int (nI (j0)))]) hx hb dX4_crossingTo_56 hl (k := 1) rfl (dec1 j0 k) (by decide) rfl (fun ls hl => ?_)
            refine lv_goto (tgt := 29) hx hb dX4_crossingTo_59 (by decide) ?_
            exact ih _ ls hb2 hb1 hbk (lv_sub hl [0, 1, 2, 3] rfl)
      have hkd : dv - 1 = j0 + (dv - 1 - j0) := by omega
      rw [hkd] at hl
      exact lp (dv - 1 - j0) v ls (hdv.trans (congrArg some (by omega))) hltv rfl (lv_sub hl [0, 1, 2, 4] rfl)
    · refine lv_iconst (v := -1) hx hb dX4_crossingTo_15 (by decide) ?_
      exact rt_i hx hb hr hlocks (by first | (rw [hqv]; rfl; done) | (rw [hqv, v_crs]; rw [hdv, if_pos ((nI_leI (show (some dv).getD 0 < 2 ^ 31 from (by show dv < _; omega)) hj0).mpr c12)])) dX4_crossingTo_16
set_option maxHeartbeats 4000000 in
set_option maxRecDepth 100000 in
theorem k_X10_fewest (l : Launch) (D : va_G) (cy : Nat → ClassId) (ad aw : Nat → Nat) (σ : Sg) (J : Js) (sn bk i : Int32) (hw : wfS σ) (hj : wfJ σ J) : MW l yX10_fewest qX10_fewest 6 [.ref (ad 0), .int (sn), .int (bk), .int (i)] D cy (cw cy ad aw σ J) (fun (r : Int32) (u : Js) => r = a_fewest σ sn bk i ∧ wfJ (σ) u) (fun u : Js => cw cy ad aw (σ) u) := by
  intro sz
  refine Met.ofW (cc := cX10_fewest) (maxL := 5) (ret := (some .int)) (by decide) rfl ?_
  intro p e s m args below meth c s₁ B hml hv
  obtain ⟨rfl, rfl, hP, hK, hN, hD0⟩ := hv
  have hx := B.exec
  have hb := B.bytes
  have hr := B.returns
  have hlocks := B.notSynchronized
  have hts : ∀ cq ∈ tg, cq.before ([.ref (ad 0), .int (sn), .int (bk), .int (i)] : List Value).toArray s = true := fun cq h => atoms_spec (ws := qX10_fewest) B.pre cq (List.mem_cons_of_mem _ h)
  have hown : s.vm.findClass RX10 = some m.cls := findClass_of_methodNamed B.named
  have hD := hD0.self (sz := s.heap.size)
  generalize hAe : va_A (cw cy ad aw σ J) s.heap.size = A at hD ⊢
  have hA : ∀ q : Nat, s.heap.size ≤ q → A q := fun q h => by rw [← hAe]; exact Or.inr h
  have hS : va_S A s.heap s.heap [] := va_S.rf
  have hl := lv_entry ([.ref (ad 0), .int (sn), .int (bk), .int (i)]) (n := 5) (Nat.le_of_ble_eq_true rfl)
  rw [lg_entry_eq]
  generalize (lg_sl ([.ref (ad 0), .int (sn), .int (bk), .int (i)]) ++ List.replicate (5 - (lg_sl ([.ref (ad 0), .int (sn), .int (bk), .int (i)])).length) Slot.unset).toArray = ls at hl ⊢
  have hl : lv_has ls 5 [(0, .ref (ad 0)), (1, .int (sn)), (2, .int (bk)), (3, .int (i))] := hl
  have hw1 := hw.1
  have hw2 := hw.2.1
  have hp8 := pw_8 hw1
  have hpp := pw_pos (s_n σ)
  have hov := ov_lt hw
  have hmo := mo_lt hw
  have hof := of_lt hw
  refine lv_aload_n hx hb dX10_fewest_0 rfl (lv_at hl 0 rfl) ?_
  refine va_get (D := D) (ci := 9) (v := .ref (ad 3)) (C := RX10) (T := TX10) (N := 8) hx hb hts ni10 hown hK hP 0 (cw_c0 cy ad aw σ J) rfl 1 (by decide) (hts _ flX10_19) (fun _ h => h) rfl dX10_fewest_1 ?_
  refine lv_iload_n hx hb dX10_fewest_4 rfl (lv_at hl 1 rfl) ?_
  refine cr_v (n := 1) (As := [.int (sn)]) (rest := []) ⟨hx, hb, hml, hown, hts⟩ (k_X3_hasAll l D cy ad aw σ J (sn) hw) gvX10_172 (by decide +kernel) ⟨Nat.le_of_ble_eq_true rfl, Nat.le_of_ble_eq_true rfl⟩ hK hN hP 3 (cw_c3 cy ad aw σ J) rfl rfl hl.1 rfl (Nat.le_of_ble_eq_true rfl) dX10_fewest_5 ⟨Nat.zero_le _, Nat.zero_le _⟩ ?_
  refine lb_if_eq (tgt := 18) hx hb dX10_fewest_8 (by decide) (fun c8 => ?_) (fun c8 => ?_)
  · refine lv_bipush (v := -2) hx hb dX10_fewest_18 (by decide) ?_
    exact rw_i hx hb hr hlocks hS J (⟨by first | (rw [a_fewest, c8]; rfl; done) | (rw [a_fewest, c8, c15]; rfl), hj⟩) hP dX10_fewest_20
  · refine lv_iload_n hx hb dX10_fewest_11 rfl (lv_at hl 2 rfl) ?_
    refine cr_s (n := 1) (As := [.int (bk)]) (rest := []) ⟨hx, hb, hml, hown, hts⟩ (k_X10_isBank l (bk)) gsX10_218 (by decide +kernel) ⟨Nat.le_of_ble_eq_true rfl, Nat.le_of_ble_eq_true rfl⟩ rfl hl.1 rfl (Nat.le_of_ble_eq_true rfl) dX10_fewest_12 ⟨Nat.zero_le _, Nat.zero_le _⟩ ?_
    refine lb_if_ne (tgt := 21) hx hb dX10_fewest_15 (by decide) (fun c15 => ?_) (fun c15 => ?_)
    · refine lv_iload_n hx hb dX10_fewest_21 rfl (lv_at hl 3 rfl) ?_
      refine lv_iconst (v := -1) hx hb dX10_fewest_22 (by decide) ?_
      refine lv_icmp_ge (tgt := 29) hx hb dX10_fewest_23 (by decide) (fun c23 => ?_) (fun c23 => ?_)
      · obtain ⟨sn0, hsn, rfl⟩ := ix_of c8 (by omega)
        have hl : lv_has ls 5 [(0, .ref (ad 0)), (1, .int (nI (sn0))), (2, .int (bk)), (3, .int (i))] := hl
        obtain ⟨b0, hb0, rfl⟩ := ix_of c15 (by omega)
        have hl : lv_has ls 5 [(0, .ref (ad 0)), (1, .int (nI (sn0))), (2, .int (nI (b0))), (3, .int (i))] := hl
        refine lv_aload_n hx hb dX10_fewest_29 rfl (lv_at hl 0 rfl) ?_
        refine va_get (D := D) (ci := 9) (v := .ref (ad 11)) (C := RX10) (T := TX10) (N := 8) hx hb hts ni10 hown hK hP 0 (cw_c0 cy ad aw σ J) rfl 4 (by decide) (hts _ flX10_44) (fun _ h => h) rfl dX10_fewest_30 ?_
        refine lv_iload_n hx hb dX10_fewest_33 rfl (lv_at hl 1 rfl) ?_
        refine lv_iload_n hx hb dX10_fewest_34 rfl (lv_at hl 2 rfl) ?_
        refine lv_iconst (v := nI 0) hx hb dX10_fewest_35 (by decide) ?_
        refine ln_eq (show (nI (0)) = (bI (false)) from rfl) ?_
        refine cr_w (n := 3) (As := [.int (nI (sn0)), .int (nI (b0)), .int (bI (false))]) (rest := []) ⟨hx, hb, hml, hown, hts⟩ (k_find_few l D cy ad aw σ J sn0 b0 hw hj (by omega) (by omega)) gvX10_248 (by decide +kernel) ⟨Nat.le_of_ble_eq_true rfl, Nat.le_of_ble_eq_true rfl⟩ hK hN hP hD hS hA 11 (cw_c11 cy ad aw σ J) rfl rfl hl.1 rfl (Nat.le_of_ble_eq_true rfl) dX10_fewest_36 ⟨Nat.zero_le _, Nat.zero_le _⟩ (fun _ => (cw_ad _ _ _ _ _).trans (cw_ad _ _ _ _ _).symm) (fun r2 u1 H locs hpu1 hP hD hS => ?_)
        obtain ⟨hr1, hra, hju⟩ := hpu1
        have hok := fewB_ok hw sn0 b0
        rw [hr1]
        have hP : va_P D vwCl (cw cy ad aw σ u1) H := hP
        have hD : va_D A (cw cy ad aw σ u1) := hD
        refine lv_istore (lv' := [(4, .int (oI ((fewB σ sn0 b0).1))), (0, .ref (ad 0)), (1, .int (nI (sn0))), (2, .int (nI (b0))), (3, .int (i))]) hx hb dX10_fewest_39 hl (by decide) rfl (fun ls hl => ?_)
        refine lv_iload_n hx hb dX10_fewest_41 rfl (lv_at hl 4 rfl) ?_
        refine lv_iconst (v := -1) hx hb dX10_fewest_42 (by decide) ?_
        refine lv_icmp_ne (tgt := 58) hx hb dX10_fewest_43 (by decide) (fun c43 => ?_) (fun c43 => ?_)
        · obtain ⟨j0, hj0, rfl⟩ := m1_le c23 c43
          have hl : lv_has ls 5 [(4, .int (oI ((fewB σ sn0 b0).1))), (0, .ref (ad 0)), (1, .int (nI (sn0))), (2, .int (nI (b0))), (3, .int (nI (j0)))] := hl
          refine lv_aload_n hx hb dX10_fewest_58 rfl (lv_at hl 1 rfl) ?_
          refine va_get (D := D) (ci := 9) (v := .ref (ad 11)) (C := RX10) (T := TX10) (N := 8) hx hb hts ni10 hown hK hP 0 (cw_c0 cy ad aw σ u1) rfl 4 (by decide) (hts _ flX10_44) (fun _ h => h) rfl dX10_fewest_59 ?_
          refine lv_iload hx hb dX10_fewest_62 (lv_at hl 0 rfl) ?_
          refine lv_iload_n hx hb dX10_fewest_64 rfl (lv_at hl 4 rfl) ?_
          refine cr_v (n := 2) (As := [.int (oI ((fewB σ sn0 b0).1)), .int (nI (j0))]) (rest := []) ⟨hx, hb, hml, hown, hts⟩ (k_X4_crossingTo l D cy ad aw σ u1 (fewB σ sn0 b0).2 (fewB σ sn0 b0).1 j0 hra hok.1 hok.2 hj0) gvX10_255 (by decide +kernel) ⟨Nat.le_of_ble_eq_true rfl, Nat.le_of_ble_eq_true rfl⟩ hK hN hP 11 (cw_c11 cy ad aw σ u1) rfl rfl hl.1 rfl (Nat.le_of_ble_eq_true rfl) dX10_fewest_65 ⟨Nat.zero_le _, Nat.zero_le _⟩ ?_
          exact rw_i hx hb hr hlocks hS u1 (⟨by rw [a_fewest, c8, c15, if_neg (by decide), if_neg (Int32.not_lt.mpr c23), tk_nI (k := sn0) (by omega), tk_nI (k := b0) (by omega), v_few]; unfold v_crs; cases hq : (fewB σ sn0 b0).1 with | none => rfl | some v => dsimp only; rw [if_neg (m1_ne j0 hj0), tk_nI (k := j0) hj0], hju⟩) hP dX10_fewest_68
        · refine lv_aload_n hx hb dX10_fewest_46 rfl (lv_at hl 1 rfl) ?_
          refine va_get (D := D) (ci := 9) (v := .ref (ad 11)) (C := RX10) (T := TX10) (N := 8) hx hb hts ni10 hown hK hP 0 (cw_c0 cy ad aw σ u1) rfl 4 (by decide) (hts _ flX10_44) (fun _ h => h) rfl dX10_fewest_47 ?_
          refine lv_iload hx hb dX10_fewest_50 (lv_at hl 0 rfl) ?_
          refine cr_v (n := 1) (As := [.int (oI ((fewB σ sn0 b0).1))]) (rest := []) ⟨hx, hb, hml, hown, hts⟩ (k_X4_costOf l D cy ad aw σ u1 (fewB σ sn0 b0).1 (fun v h => (hok.2 v h).1)) gvX10_252 (by decide +kernel) ⟨Nat.le_of_ble_eq_true rfl, Nat.le_of_ble_eq_true rfl⟩ hK hN hP 11 (cw_c11 cy ad aw σ u1) rfl rfl hl.1 rfl (Nat.le_of_ble_eq_true rfl) dX10_fewest_52 ⟨Nat.zero_le _, Nat.zero_le _⟩ ?_
          refine lv_goto (tgt := 68) hx hb dX10_fewest_55 (by decide) ?_
          exact rw_i hx hb hr hlocks hS u1 (⟨by rw [a_fewest, c8, c15, if_neg (by decide), if_neg (Int32.not_lt.mpr c23), tk_nI (k := sn0) (by omega), tk_nI (k := b0) (by omega), v_few]; unfold v_cost; cases hq : (fewB σ sn0 b0).1 with | none => rfl | some v => dsimp only; obtain ⟨hv, dv, hdv⟩ := hok.2 v hq; rw [if_pos c43, hra.1 v hv, hdv]; rfl, hju⟩) hP dX10_fewest_68
      · refine lv_bipush (v := -3) hx hb dX10_fewest_26 (by decide) ?_
        exact rw_i hx hb hr hlocks hS J (⟨by rw [a_fewest, c8, c15, if_neg (by decide), if_pos (Int32.not_le.mp c23)], hj⟩) hP dX10_fewest_28
    · refine lv_bipush (v := -2) hx hb dX10_fewest_18 (by decide) ?_
      exact rw_i hx hb hr hlocks hS J (⟨by first | (rw [a_fewest, c8]; rfl; done) | (rw [a_fewest, c8, c15]; rfl), hj⟩) hP dX10_fewest_20
