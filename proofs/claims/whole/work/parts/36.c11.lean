def lvP (Z : Ss) (q : Nat) : Bool := decide (z_hd Z q < z_tl Z q)
def lvW (Z : Ss) (q : Nat) : Nat := z_co Z (z_wa Z (z_hd Z q))
def lsW (p : Nat → Bool) (w : Nat → Nat) (q : Nat) : Nat := match lwt p w q with
  | none => 1048576
  | some b => w b
theorem ch_t {p : Nat → Bool} {w : Nat → Nat} {q : Nat} (hp : p q = true) (h : w q < lsW p w q) : nI q = oI (lwt p w (q + 1)) ∧ w q = lsW p w (q + 1) := by
  unfold lsW at h ⊢
  cases hq : lwt p w q with
  | none =>
    have e : lwt p w (q + 1) = some q := by rw [lwt, hp, hq]; rfl
    rw [e]; exact ⟨rfl, rfl⟩
  | some b =>
    rw [hq] at h
    have e : lwt p w (q + 1) = some q := by rw [lwt, hp, hq]; simp only [if_pos h]; rfl
    rw [e]; exact ⟨rfl, rfl⟩
theorem ch_k {p : Nat → Bool} {w : Nat → Nat} {q : Nat} (hp : p q = true) (h : lsW p w q ≤ w q) (hb : w q < 1048576) : lwt p w (q + 1) = lwt p w q := by
  unfold lsW at h
  cases hq : lwt p w q with
  | none => rw [hq] at h; exact absurd h (by simp only; omega)
  | some b =>
    rw [hq] at h
    rw [lwt, hp, hq]; simp only [if_neg (Nat.not_lt.mpr h)]; rfl
theorem ch_f {p : Nat → Bool} {w : Nat → Nat} {q : Nat} (hp : p q = false) : lwt p w (q + 1) = lwt p w q := by rw [lwt, hp]; rfl
theorem lsW_le {p : Nat → Bool} {w : Nat → Nat} {q : Nat} (h : ∀ b, b < q → p b = true → w b < 1048576) : lsW p w q ≤ 1048576 := by
  unfold lsW
  cases hq : lwt p w q with
  | none => exact Nat.le_refl _
  | some b => exact Nat.le_of_lt (h b (lwt_lt hq) (lwt_char hq).1)
def zQ (Z : Ss) : Prop := ∀ q, q < 3 → z_hd Z q ≤ 6144 ∧ z_tl Z q ≤ 6144 ∧ (z_hd Z q < z_tl Z q → z_wa Z (z_hd Z q) < 2048 ∧ lvW Z q < 1048576)
set_option maxHeartbeats 4000000 in
set_option maxRecDepth 100000 in
theorem k_X4_cheapestQueue (l : Launch) (D : va_G) (cy : Nat → ClassId) (ad aw : Nat → Nat) (σ : Sg) (J : Js) (fi fc : Nat → Nat) (Z : Ss) (hz : zQ Z) : MR l yX4_cheapestQueue qX4_cheapestQueue 0 [.ref (ad 11)] D cy (cw cy ad aw σ (ju_tl (ju_hd (ju_wa (ju_cb (ju_co (ju_fc (ju_fi J (nf fi)) (nf fc)) (nf (z_co Z))) (nf (z_cb Z))) (nf (z_wa Z))) (nf (z_hd Z))) (nf (z_tl Z)))) (oI (lwt (lvP Z) (lvW Z) 3)) := by
  refine Met.ofW (cc := cX4_cheapestQueue) (maxL := 4) (ret := (some .int)) (by decide) rfl ?_
  intro p e s m args below meth c s₁ B hml hv
  obtain ⟨rfl, hP, hK, hN⟩ := hv
  have hx := B.exec
  have hb := B.bytes
  have hr := B.returns
  have hlocks := B.notSynchronized
  have hts : ∀ cq ∈ tg, cq.before ([.ref (ad 11)] : List Value).toArray s = true := fun cq h => atoms_spec (ws := qX4_cheapestQueue) B.pre cq (List.mem_cons_of_mem _ h)
  have hown : s.vm.findClass RX4 = some m.cls := findClass_of_methodNamed B.named
  have hl := lv_entry ([.ref (ad 11)]) (n := 4) (Nat.le_of_ble_eq_true rfl)
  rw [lg_entry_eq]
  generalize (lg_sl ([.ref (ad 11)]) ++ List.replicate (4 - (lg_sl ([.ref (ad 11)])).length) Slot.unset).toArray = ls at hl ⊢
  have hl : lv_has ls 4 [(0, .ref (ad 11))] := hl
  refine lv_iconst (v := -1) hx hb dX4_cheapestQueue_0 (by decide) ?_
  refine lv_istore_n (lv' := [(1, .int (-1)), (0, .ref (ad 11))]) hx hb dX4_cheapestQueue_1 rfl hl (by decide) rfl (fun ls hl => ?_)
  refine lv_ldc (v := nI 1048576) hx hb hown (hts _ cnX4_87) dX4_cheapestQueue_2 ?_
  refine lv_istore_n (lv' := [(2, .int (nI (1048576))), (1, .int (-1)), (0, .ref (ad 11))]) hx hb dX4_cheapestQueue_4 rfl hl (by decide) rfl (fun ls hl => ?_)
  refine lv_iconst (v := nI 0) hx hb dX4_cheapestQueue_5 (by decide) ?_
  refine lv_istore_n (lv' := [(3, .int (nI (0))), (2, .int (nI (1048576))), (1, .int (-1)), (0, .ref (ad 11))]) hx hb dX4_cheapestQueue_6 rfl hl (by decide) rfl (fun ls hl => ?_)
  have lp : ∀ (k_lp q : Nat) (ls : Array Slot)  , q + k_lp = 3 → lv_has ls 4 [(3, .int (nI (q))), (1, .int (oI (lwt (lvP Z) (lvW Z) q))), (2, .int (nI (lsW (lvP Z) (lvW Z) q))), (0, .ref (ad 11))] → W p l e (headSpec qX4_cheapestQueue (rq 0)).room s m ([.ref (ad 11)] : List Value).toArray below meth c s.heap [] 0 0 (MQ below (vp_Si (fun r => r = oI (lwt (lvP Z) (lvW Z) 3))) ([.ref (ad 11)] : List Value).toArray s 0 0 (fun _ => False)) (F0 m 7 ls []) := by
    intro k_lp
    induction k_lp with
    | zero =>
      intro q ls hi_lp hl
      have hls : lsW (lvP Z) (lvW Z) q ≤ 1048576 := lsW_le (fun b hb hp => ((hz b (by omega)).2.2 (of_decide_eq_true hp)).2)
      have hzq := fun h : q < 3 => hz q h
      refine lv_iload_n hx hb dX4_cheapestQueue_7 rfl (lv_at hl 0 rfl) ?_
      refine lv_iconst (v := nI 3) hx hb dX4_cheapestQueue_8 (by decide) ?_
      refine ln_icmp_ge (tgt := 72) hx hb dX4_cheapestQueue_9 (by decide) (by omega) (by omega) (fun c9 => ?_) (fun c9 => ?_)
      · refine lv_iload_n hx hb dX4_cheapestQueue_72 rfl (lv_at hl 1 rfl) ?_
        exact rt_i hx hb hr hlocks (by rw [show q = 3 by omega]) dX4_cheapestQueue_73
      · exact absurd c9 (by omega)
    | succ k_lp ih_lp =>
      intro q ls hi_lp hl
      have hls : lsW (lvP Z) (lvW Z) q ≤ 1048576 := lsW_le (fun b hb hp => ((hz b (by omega)).2.2 (of_decide_eq_true hp)).2)
      have hzq := fun h : q < 3 => hz q h
      refine lv_iload_n hx hb dX4_cheapestQueue_7 rfl (lv_at hl 0 rfl) ?_
      refine lv_iconst (v := nI 3) hx hb dX4_cheapestQueue_8 (by decide) ?_
      refine ln_icmp_ge (tgt := 72) hx hb dX4_cheapestQueue_9 (by decide) (by omega) (by omega) (fun c9 => ?_) (fun c9 => ?_)
      · exact absurd c9 (by omega)
      · have hzq := hzq (by omega)
        refine lv_aload_n hx hb dX4_cheapestQueue_12 rfl (lv_at hl 3 rfl) ?_
        refine va_get (D := D) (ci := 4) (v := .ref (ad 17)) (C := RX4) (T := TX4) (N := 8) hx hb hts ni4 hown hK hP 11 (cw_c11 cy ad aw σ (ju_tl (ju_hd (ju_wa (ju_cb (ju_co (ju_fc (ju_fi J (nf fi)) (nf fc)) (nf (z_co Z))) (nf (z_cb Z))) (nf (z_wa Z))) (nf (z_hd Z))) (nf (z_tl Z)))) rfl 6 (by decide) (hts _ flX4_27) (fun _ h => h) rfl dX4_cheapestQueue_13 ?_
        refine lv_iload_n hx hb dX4_cheapestQueue_16 rfl (lv_at hl 0 rfl) ?_
        refine ln_iald (v := (nI ((z_hd Z) q))) hx hb hK hP 17 (cw_c17 cy ad aw σ (ju_tl (ju_hd (ju_wa (ju_cb (ju_co (ju_fc (ju_fi J (nf fi)) (nf fc)) (nf (z_co Z))) (nf (z_cb Z))) (nf (z_wa Z))) (nf (z_hd Z))) (nf (z_tl Z)))) (by omega) (by decide) rfl dX4_cheapestQueue_17 ?_
        refine lv_aload_n hx hb dX4_cheapestQueue_18 rfl (lv_at hl 3 rfl) ?_
        refine va_get (D := D) (ci := 4) (v := .ref (ad 18)) (C := RX4) (T := TX4) (N := 8) hx hb hts ni4 hown hK hP 11 (cw_c11 cy ad aw σ (ju_tl (ju_hd (ju_wa (ju_cb (ju_co (ju_fc (ju_fi J (nf fi)) (nf fc)) (nf (z_co Z))) (nf (z_cb Z))) (nf (z_wa Z))) (nf (z_hd Z))) (nf (z_tl Z)))) rfl 7 (by decide) (hts _ flX4_30) (fun _ h => h) rfl dX4_cheapestQueue_19 ?_
        refine lv_iload_n hx hb dX4_cheapestQueue_22 rfl (lv_at hl 0 rfl) ?_
        refine ln_iald (v := (nI ((z_tl Z) q))) hx hb hK hP 18 (cw_c18 cy ad aw σ (ju_tl (ju_hd (ju_wa (ju_cb (ju_co (ju_fc (ju_fi J (nf fi)) (nf fc)) (nf (z_co Z))) (nf (z_cb Z))) (nf (z_wa Z))) (nf (z_hd Z))) (nf (z_tl Z)))) (by omega) (by decide) rfl dX4_cheapestQueue_23 ?_
        refine ln_icmp_ge (tgt := 66) hx hb dX4_cheapestQueue_24 (by decide) (by omega) (by omega) (fun c24 => ?_) (fun c24 => ?_)
        · refine ln_iinc (lv' := [(3, .int (nI (q + 1))), (1, .int (oI (lwt (lvP Z) (lvW Z) q))), (2, .int (nI (lsW (lvP Z) (lvW Z) q))), (0, .ref (ad 11))]) hx hb dX4_cheapestQueue_66 hl (k := 0) (n := 1) rfl (by decide) rfl (fun ls hl => ?_)
          refine lv_goto (tgt := 7) hx hb dX4_cheapestQueue_69 (by decide) ?_
          have hl : lv_has ls 4 [(3, .int (nI (q + 1))), (1, .int (oI (lwt (lvP Z) (lvW Z) (q + 1)))), (2, .int (nI (lsW (lvP Z) (lvW Z) (q + 1)))), (0, .ref (ad 11))] := by rw [← (show (oI (lwt (lvP Z) (lvW Z) q)) = (oI (lwt (lvP Z) (lvW Z) (q + 1))) from by first | exact (ch_t (decide_eq_true c24) c44).1 | exact congrArg oI (ch_k (decide_eq_true c24) c44 hzw.2).symm | exact congrArg oI (ch_f (decide_eq_false (Nat.not_lt.mpr c24))).symm), ← (show (nI (lsW (lvP Z) (lvW Z) q)) = (nI (lsW (lvP Z) (lvW Z) (q + 1))) from congrArg nI (by first | exact (ch_t (decide_eq_true c24) c44).2 | (show lsW _ _ _ = lsW _ _ _; unfold lsW; rw [ch_k (decide_eq_true c24) c44 hzw.2]) | (show lsW _ _ _ = lsW _ _ _; unfold lsW; rw [ch_f (decide_eq_false (Nat.not_lt.mpr c24))])))]; exact lv_sub hl [0, 1, 2, 3] rfl
          exact ih_lp (q + 1) ls (by omega)  hl
        · have hzw := hzq.2.2 c24
          refine lv_aload_n hx hb dX4_cheapestQueue_27 rfl (lv_at hl 3 rfl) ?_
          refine va_get (D := D) (ci := 4) (v := .ref (ad 14)) (C := RX4) (T := TX4) (N := 8) hx hb hts ni4 hown hK hP 11 (cw_c11 cy ad aw σ (ju_tl (ju_hd (ju_wa (ju_cb (ju_co (ju_fc (ju_fi J (nf fi)) (nf fc)) (nf (z_co Z))) (nf (z_cb Z))) (nf (z_wa Z))) (nf (z_hd Z))) (nf (z_tl Z)))) rfl 3 (by decide) (hts _ flX4_18) (fun _ h => h) rfl dX4_cheapestQueue_28 ?_
          refine lv_aload_n hx hb dX4_cheapestQueue_31 rfl (lv_at hl 3 rfl) ?_
          refine va_get (D := D) (ci := 4) (v := .ref (ad 16)) (C := RX4) (T := TX4) (N := 8) hx hb hts ni4 hown hK hP 11 (cw_c11 cy ad aw σ (ju_tl (ju_hd (ju_wa (ju_cb (ju_co (ju_fc (ju_fi J (nf fi)) (nf fc)) (nf (z_co Z))) (nf (z_cb Z))) (nf (z_wa Z))) (nf (z_hd Z))) (nf (z_tl Z)))) rfl 5 (by decide) (hts _ flX4_24) (fun _ h => h) rfl dX4_cheapestQueue_32 ?_
          refine lv_aload_n hx hb dX4_cheapestQueue_35 rfl (lv_at hl 3 rfl) ?_
          refine va_get (D := D) (ci := 4) (v := .ref (ad 17)) (C := RX4) (T := TX4) (N := 8) hx hb hts ni4 hown hK hP 11 (cw_c11 cy ad aw σ (ju_tl (ju_hd (ju_wa (ju_cb (ju_co (ju_fc (ju_fi J (nf fi)) (nf fc)) (nf (z_co Z))) (nf (z_cb Z))) (nf (z_wa Z))) (nf (z_hd Z))) (nf (z_tl Z)))) rfl 6 (by decide) (hts _ flX4_27) (fun _ h => h) rfl dX4_cheapestQueue_36 ?_
          refine lv_iload_n hx hb dX4_cheapestQueue_39 rfl (lv_at hl 0 rfl) ?_
          refine ln_iald (v := (nI ((z_hd Z) q))) hx hb hK hP 17 (cw_c17 cy ad aw σ (ju_tl (ju_hd (ju_wa (ju_cb (ju_co (ju_fc (ju_fi J (nf fi)) (nf fc)) (nf (z_co Z))) (nf (z_cb Z))) (nf (z_wa Z))) (nf (z_hd Z))) (nf (z_tl Z)))) (by omega) (by decide) rfl dX4_cheapestQueue_40 ?_
          refine ln_iald (v := (nI ((z_wa Z) ((z_hd Z) q)))) hx hb hK hP 16 (cw_c16 cy ad aw σ (ju_tl (ju_hd (ju_wa (ju_cb (ju_co (ju_fc (ju_fi J (nf fi)) (nf fc)) (nf (z_co Z))) (nf (z_cb Z))) (nf (z_wa Z))) (nf (z_hd Z))) (nf (z_tl Z)))) (by omega) (by decide) rfl dX4_cheapestQueue_41 ?_
          refine ln_iald (v := (nI ((z_co Z) ((z_wa Z) ((z_hd Z) q))))) hx hb hK hP 14 (cw_c14 cy ad aw σ (ju_tl (ju_hd (ju_wa (ju_cb (ju_co (ju_fc (ju_fi J (nf fi)) (nf fc)) (nf (z_co Z))) (nf (z_cb Z))) (nf (z_wa Z))) (nf (z_hd Z))) (nf (z_tl Z)))) hzw.1 (by decide) rfl dX4_cheapestQueue_42 ?_
          refine ln_nat (show (z_co Z) ((z_wa Z) ((z_hd Z) q)) = lvW Z q from rfl) ?_
          refine lv_iload_n hx hb dX4_cheapestQueue_43 rfl (lv_at hl 2 rfl) ?_
          refine ln_icmp_ge (tgt := 66) hx hb dX4_cheapestQueue_44 (by decide) (by omega) (by omega) (fun c44 => ?_) (fun c44 => ?_)
          · refine ln_iinc (lv' := [(3, .int (nI (q + 1))), (1, .int (oI (lwt (lvP Z) (lvW Z) q))), (2, .int (nI (lsW (lvP Z) (lvW Z) q))), (0, .ref (ad 11))]) hx hb dX4_cheapestQueue_66 hl (k := 0) (n := 1) rfl (by decide) rfl (fun ls hl => ?_)
            refine lv_goto (tgt := 7) hx hb dX4_cheapestQueue_69 (by decide) ?_
            have hl : lv_has ls 4 [(3, .int (nI (q + 1))), (1, .int (oI (lwt (lvP Z) (lvW Z) (q + 1)))), (2, .int (nI (lsW (lvP Z) (lvW Z) (q + 1)))), (0, .ref (ad 11))] := by rw [← (show (oI (lwt (lvP Z) (lvW Z) q)) = (oI (lwt (lvP Z) (lvW Z) (q + 1))) from by first | exact (ch_t (decide_eq_true c24) c44).1 | exact congrArg oI (ch_k (decide_eq_true c24) c44 hzw.2).symm | exact congrArg oI (ch_f (decide_eq_false (Nat.not_lt.mpr c24))).symm), ← (show (nI (lsW (lvP Z) (lvW Z) q)) = (nI (lsW (lvP Z) (lvW Z) (q + 1))) from congrArg nI (by first | exact (ch_t (decide_eq_true c24) c44).2 | (show lsW _ _ _ = lsW _ _ _; unfold lsW; rw [ch_k (decide_eq_true c24) c44 hzw.2]) | (show lsW _ _ _ = lsW _ _ _; unfold lsW; rw [ch_f (decide_eq_false (Nat.not_lt.mpr c24))])))]; exact lv_sub hl [0, 1, 2, 3] rfl
            exact ih_lp (q + 1) ls (by omega)  hl
          · refine lv_iload_n hx hb dX4_cheapestQueue_47 rfl (lv_at hl 0 rfl) ?_
            refine lv_istore_n (lv' := [(1, .int (nI (q))), (3, .int (nI (q))), (2, .int (nI (lsW (lvP Z) (lvW Z) q))), (0, .ref (ad 11))]) hx hb dX4_cheapestQueue_48 rfl hl (by decide) rfl (fun ls hl => ?_)
            refine lv_aload_n hx hb dX4_cheapestQueue_49 rfl (lv_at hl 3 rfl) ?_
            refine va_get (D := D) (ci := 4) (v := .ref (ad 14)) (C := RX4) (T := TX4) (N := 8) hx hb hts ni4 hown hK hP 11 (cw_c11 cy ad aw σ (ju_tl (ju_hd (ju_wa (ju_cb (ju_co (ju_fc (ju_fi J (nf fi)) (nf fc)) (nf (z_co Z))) (nf (z_cb Z))) (nf (z_wa Z))) (nf (z_hd Z))) (nf (z_tl Z)))) rfl 3 (by decide) (hts _ flX4_18) (fun _ h => h) rfl dX4_cheapestQueue_50 ?_
            refine lv_aload_n hx hb dX4_cheapestQueue_53 rfl (lv_at hl 3 rfl) ?_
            refine va_get (D := D) (ci := 4) (v := .ref (ad 16)) (C := RX4) (T := TX4) (N := 8) hx hb hts ni4 hown hK hP 11 (cw_c11 cy ad aw σ (ju_tl (ju_hd (ju_wa (ju_cb (ju_co (ju_fc (ju_fi J (nf fi)) (nf fc)) (nf (z_co Z))) (nf (z_cb Z))) (nf (z_wa Z))) (nf (z_hd Z))) (nf (z_tl Z)))) rfl 5 (by decide) (hts _ flX4_24) (fun _ h => h) rfl dX4_cheapestQueue_54 ?_
            refine lv_aload_n hx hb dX4_cheapestQueue_57 rfl (lv_at hl 3 rfl) ?_
            refine va_get (D := D) (ci := 4) (v := .ref (ad 17)) (C := RX4) (T := TX4) (N := 8) hx hb hts ni4 hown hK hP 11 (cw_c11 cy ad aw σ (ju_tl (ju_hd (ju_wa (ju_cb (ju_co (ju_fc (ju_fi J (nf fi)) (nf fc)) (nf (z_co Z))) (nf (z_cb Z))) (nf (z_wa Z))) (nf (z_hd Z))) (nf (z_tl Z)))) rfl 6 (by decide) (hts _ flX4_27) (fun _ h => h) rfl dX4_cheapestQueue_58 ?_
            refine lv_iload_n hx hb dX4_cheapestQueue_61 rfl (lv_at hl 1 rfl) ?_
            refine ln_iald (v := (nI ((z_hd Z) q))) hx hb hK hP 17 (cw_c17 cy ad aw σ (ju_tl (ju_hd (ju_wa (ju_cb (ju_co (ju_fc (ju_fi J (nf fi)) (nf fc)) (nf (z_co Z))) (nf (z_cb Z))) (nf (z_wa Z))) (nf (z_hd Z))) (nf (z_tl Z)))) (by omega) (by decide) rfl dX4_cheapestQueue_62 ?_
            refine ln_iald (v := (nI ((z_wa Z) ((z_hd Z) q)))) hx hb hK hP 16 (cw_c16 cy ad aw σ (ju_tl (ju_hd (ju_wa (ju_cb (ju_co (ju_fc (ju_fi J (nf fi)) (nf fc)) (nf (z_co Z))) (nf (z_cb Z))) (nf (z_wa Z))) (nf (z_hd Z))) (nf (z_tl Z)))) (by omega) (by decide) rfl dX4_cheapestQueue_63 ?_
            refine ln_iald (v := (nI ((z_co Z) ((z_wa Z) ((z_hd Z) q))))) hx hb hK hP 14 (cw_c14 cy ad aw σ (ju_tl (ju_hd (ju_wa (ju_cb (ju_co (ju_fc (ju_fi J (nf fi)) (nf fc)) (nf (z_co Z))) (nf (z_cb Z))) (nf (z_wa Z))) (nf (z_hd Z))) (nf (z_tl Z)))) hzw.1 (by decide) rfl dX4_cheapestQueue_64 ?_
            refine ln_nat (show (z_co Z) ((z_wa Z) ((z_hd Z) q)) = lvW Z q from rfl) ?_
            refine lv_istore_n (lv' := [(2, .int (nI (lvW Z q))), (1, .int (nI (q))), (3, .int (nI (q))), (0, .ref (ad 11))]) hx hb dX4_cheapestQueue_65 rfl hl (by decide) rfl (fun ls hl => ?_)
            refine ln_iinc (lv' := [(3, .int (nI (q + 1))), (2, .int (nI (lvW Z q))), (1, .int (nI (q))), (0, .ref (ad 11))]) hx hb dX4_cheapestQueue_66 hl (k := 2) (n := 1) rfl (by decide) rfl (fun ls hl => ?_)
            refine lv_goto (tgt := 7) hx hb dX4_cheapestQueue_69 (by decide) ?_
            have hl : lv_has ls 4 [(3, .int (nI (q + 1))), (1, .int (oI (lwt (lvP Z) (lvW Z) (q + 1)))), (2, .int (nI (lsW (lvP Z) (lvW Z) (q + 1)))), (0, .ref (ad 11))] := by rw [← (show (nI (q)) = (oI (lwt (lvP Z) (lvW Z) (q + 1))) from by first | exact (ch_t (decide_eq_true c24) c44).1 | exact congrArg oI (ch_k (decide_eq_true c24) c44 hzw.2).symm | exact congrArg oI (ch_f (decide_eq_false (Nat.not_lt.mpr c24))).symm), ← (show (nI (lvW Z q)) = (nI (lsW (lvP Z) (lvW Z) (q + 1))) from congrArg nI (by first | exact (ch_t (decide_eq_true c24) c44).2 | (show lsW _ _ _ = lsW _ _ _; unfold lsW; rw [ch_k (decide_eq_true c24) c44 hzw.2]) | (show lsW _ _ _ = lsW _ _ _; unfold lsW; rw [ch_f (decide_eq_false (Nat.not_lt.mpr c24))])))]; exact lv_sub hl [0, 2, 1, 3] rfl
            exact ih_lp (q + 1) ls (by omega)  hl
  have hl : lv_has ls 4 [(3, .int (nI (0))), (1, .int (oI (lwt (lvP Z) (lvW Z) 0))), (2, .int (nI (lsW (lvP Z) (lvW Z) 0))), (0, .ref (ad 11))] := lv_sub hl [0, 2, 1, 3] rfl
  exact lp (3 - 0) 0 ls (by omega)  hl
def spX (σ : Sg) (s f q pr : Nat) (Z : Ss) : Nat → Ss
  | 0 => Z
  | x + 1 => if edge σ s f x = true then rcF (stp s f x) (256 * f + x) (z_co (spX σ s f q pr Z x) s + pr) q (spX σ s f q pr Z x) else spX σ s f q pr Z x
def zOk (Z : Ss) : Prop := (∀ v, v < 2048 → z_co Z v ≤ 1048576) ∧ ∀ q, q < 3 → z_tl Z q ≤ (q + 1) * 2048
theorem rcF_ok {Z : Ss} (h : zOk Z) {b cr pr q : Nat} (hpr : pr ≤ 1048576) : zOk (rcF b cr pr q Z) ∧ ∀ v, z_co (rcF b cr pr q Z) v ≤ z_co Z v := by
  unfold rcF
  by_cases c : pr < z_co Z b ∧ z_tl Z q < (q + 1) * 2048
  · rw [if_pos c]
    refine ⟨⟨fun v hv => ?_, fun r hr => ?_⟩, fun v => ?_⟩
    · show updN _ _ _ v ≤ _
      unfold updN; split
      · exact hpr
      · exact h.1 v hv
    · show updN _ _ _ r ≤ _
      unfold updN; split
      · rename_i e; rw [e]; omega
      · exact h.2 r hr
    · show updN _ _ _ v ≤ _
      unfold updN; split
      · rename_i e; rw [e]; omega
      · exact Nat.le_refl _
  · rw [if_neg c]; exact ⟨h, fun _ => Nat.le_refl _⟩
theorem spX_ok {σ : Sg} {s f q pr : Nat} {Z : Ss} (h : zOk Z) (hs : z_co Z s ≤ 2 ^ 19) (hp : pr ≤ 9) : ∀ x, zOk (spX σ s f q pr Z x) ∧ ∀ v, z_co (spX σ s f q pr Z x) v ≤ z_co Z v
  | 0 => ⟨h, fun _ => Nat.le_refl _⟩
  | x + 1 => by
    obtain ⟨h1, h2⟩ := spX_ok (σ := σ) (f := f) (q := q) h hs hp x
    rw [spX]
    split
    · have := h2 s
      obtain ⟨g1, g2⟩ := rcF_ok (b := stp s f x) (cr := 256 * f + x) (q := q) h1 (pr := z_co (spX σ s f q pr Z x) s + pr) (by omega)
      exact ⟨g1, fun v => Nat.le_trans (g2 v) (h2 v)⟩
    · exact ⟨h1, h2⟩
theorem edge_th {σ : Sg} {th bo f x : Nat} (ht : th < 256) : edge σ (th + 256 * bo) f x = (onB (bo.testBit f) x th && isRS σ f x) := by
  have h1 : (th + 256 * bo) &&& 255 = th := by
    have : (th + 256 * bo) &&& (2 ^ 8 - 1) = (th + 256 * bo) % 2 ^ 8 := Nat.and_two_pow_sub_one_eq_mod _ 8
    rw [show (255 : Nat) = 2 ^ 8 - 1 from rfl, this]; omega
  rw [edge, h1, cw_div ht, isR_eq]
theorem spX_skip {σ : Sg} {th bo f q pr : Nat} {Z : Ss} (ht : th < 256) {y : Nat} : ∀ {k : Nat}, (∀ z, y ≤ z → z < y + k → isRS σ f z = false) → spX σ (th + 256 * bo) f q pr Z (y + k) = spX σ (th + 256 * bo) f q pr Z y
  | 0, _ => rfl
  | k + 1, h => by
    rw [← Nat.add_assoc, spX, if_neg (by rw [edge_th ht, h (y + k) (by omega) (by omega), Bool.and_false]; decide)]
    exact spX_skip ht (fun z h1 h2 => h z h1 (by omega))
theorem cnt_mono {p : Nat → Bool} {a : Nat} : ∀ k, cntN p a ≤ cntN p (a + k)
  | 0 => Nat.le_refl _
  | k + 1 => by
    have e : cntN p (a + (k + 1)) = cntN p (a + k) + (p (a + k)).toNat := rfl
    have := cnt_mono (p := p) (a := a) k
    omega
theorem cnt_kth {p : Nat → Bool} {j : Nat} : ∀ {n : Nat}, j < cntN p n → ∃ x, x < n ∧ p x = true ∧ cntN p x = j
  | 0, h => absurd h (by simp [cntN, sumN])
  | n + 1, h => by
    have e : cntN p (n + 1) = cntN p n + (p n).toNat := rfl
    rcases Nat.lt_or_ge j (cntN p n) with q | q
    · obtain ⟨x, h1, h2, h3⟩ := cnt_kth q; exact ⟨x, by omega, h2, h3⟩
    · cases hp : p n with
      | false => rw [hp] at e; rw [e] at h; exact absurd h (by simp; omega)
      | true => rw [hp] at e; refine ⟨n, by omega, hp, ?_⟩; rw [e] at h; simp at h; omega
theorem cnt_gap {p : Nat → Bool} {x y : Nat} (hp : p x = true) (he : cntN p y = cntN p x) : y ≤ x ∧ ∀ z, y ≤ z → z < x → p z = false := by
  have h1 : y ≤ x := by
    refine Nat.not_lt.mp (fun q => ?_)
    have := cnt_mono (p := p) (a := x + 1) (y - (x + 1))
    rw [show x + 1 + (y - (x + 1)) = y by omega, ← cntN_t hp] at this
    omega
  refine ⟨h1, fun z hz hzx => ?_⟩
  cases hq : p z with
  | false => rfl
  | true =>
    have g1 := cnt_mono (p := p) (a := y) (z - y)
    have g2 := cnt_mono (p := p) (a := z + 1) (x - (z + 1))
    rw [show y + (z - y) = z by omega] at g1
    rw [show z + 1 + (x - (z + 1)) = x by omega, ← cntN_t hq] at g2
    omega
theorem sp_find {σ : Sg} {fi : Nat → Nat} {th bo f q pr y j n : Nat} {Z : Ss} (ht : th < 256) (hok : ftOk σ fi f n) (hj : j < cntN (isRS σ f) n) (hy : cntN (isRS σ f) y = j) : ∃ x, x < n ∧ isRS σ f x = true ∧ cntN (isRS σ f) x = j ∧ fi (256 * f + j) = x ∧ spX σ (th + 256 * bo) f q pr Z y = spX σ (th + 256 * bo) f q pr Z x := by
  obtain ⟨x, h1, h2, h3⟩ := cnt_kth hj
  obtain ⟨g1, g2⟩ := cnt_gap h2 (hy.trans h3.symm)
  refine ⟨x, h1, h2, h3, by have := hok x h1 h2; rw [h3] at this; exact this, ?_⟩
  have := spX_skip (σ := σ) (bo := bo) (f := f) (q := q) (pr := pr) (Z := Z) ht (y := y) (k := x - y) (fun z hz1 hz2 => g2 z hz1 (by omega))
  rw [show y + (x - y) = x by omega] at this
  exact this.symm
theorem sp_end {σ : Sg} {th bo f q pr y n : Nat} {Z : Ss} (ht : th < 256) (hyn : y ≤ n) (hy : cntN (isRS σ f) y = cntN (isRS σ f) n) : spX σ (th + 256 * bo) f q pr Z y = spX σ (th + 256 * bo) f q pr Z n := by
  have := spX_skip (σ := σ) (bo := bo) (f := f) (q := q) (pr := pr) (Z := Z) ht (y := y) (k := n - y) (fun z hz1 hz2 => by
    cases hq : isRS σ f z with
    | false => rfl
    | true =>
      have g1 := cnt_mono (p := isRS σ f) (a := y) (z - y)
      have g2 := cnt_mono (p := isRS σ f) (a := z + 1) (n - (z + 1))
      rw [show y + (z - y) = z by omega] at g1
      rw [show z + 1 + (n - (z + 1)) = n by omega, ← cntN_t hq] at g2
      omega)
  rw [show y + (n - y) = n by omega] at this
  exact this.symm
set_option maxHeartbeats 4000000 in
set_option maxRecDepth 100000 in
theorem k_X4_spread (l : Launch) (D : va_G) (cy : Nat → ClassId) (ad aw : Nat → Nat) (σ : Sg) (J : Js) (fi fc : Nat → Nat) (Z : Ss) (th bo f q pr : Nat) (hw : wfS σ) (ht : th < 256) (hb8 : bo < 8) (hf : f < 3) (hq : q < 3) (hpr : pr ≤ 9) (hz : zOk Z) (hs : z_co Z (th + 256 * bo) ≤ 2 ^ 19) (hok : ftOk σ fi f (2 ^ s_n σ)) (hfc : fc f = cntN (isRS σ f) (2 ^ s_n σ)) : MV l yX4_spread qX4_spread 2 [.ref (ad 11), .int (nI (th + 256 * bo)), .int (nI (f)), .int (nI (q)), .int (nI (pr))] D cy (cw cy ad aw σ (ju_tl (ju_hd (ju_wa (ju_cb (ju_co (ju_fc (ju_fi J (nf fi)) (nf fc)) (nf (z_co Z))) (nf (z_cb Z))) (nf (z_wa Z))) (nf (z_hd Z))) (nf (z_tl Z)))) (fun _ : Unit => True) (fun _ : Unit => (cw cy ad aw σ (ju_tl (ju_hd (ju_wa (ju_cb (ju_co (ju_fc (ju_fi J (nf fi)) (nf fc)) (nf (z_co (spX σ (th + 256 * bo) f q pr Z (2 ^ s_n σ))))) (nf (z_cb (spX σ (th + 256 * bo) f q pr Z (2 ^ s_n σ))))) (nf (z_wa (spX σ (th + 256 * bo) f q pr Z (2 ^ s_n σ))))) (nf (z_hd (spX σ (th + 256 * bo) f q pr Z (2 ^ s_n σ))))) (nf (z_tl (spX σ (th + 256 * bo) f q pr Z (2 ^ s_n σ))))))) := by
  intro sz
  refine Met.ofW (cc := cX4_spread) (maxL := 9) (ret := none) (by decide) rfl ?_
  intro p e s m args below meth c s₁ B hml hv
  obtain ⟨rfl, rfl, hP, hK, hN, hD0⟩ := hv
  have hx := B.exec
  have hb := B.bytes
  have hr := B.returns
  have hlocks := B.notSynchronized
  have hts : ∀ cq ∈ tg, cq.before ([.ref (ad 11), .int (nI (th + 256 * bo)), .int (nI (f)), .int (nI (q)), .int (nI (pr))] : List Value).toArray s = true := fun cq h => atoms_spec (ws := qX4_spread) B.pre cq (List.mem_cons_of_mem _ h)
  have hown : s.vm.findClass RX4 = some m.cls := findClass_of_methodNamed B.named
  have hD := hD0.self (sz := s.heap.size)
  generalize hAe : va_A (cw cy ad aw σ (ju_tl (ju_hd (ju_wa (ju_cb (ju_co (ju_fc (ju_fi J (nf fi)) (nf fc)) (nf (z_co Z))) (nf (z_cb Z))) (nf (z_wa Z))) (nf (z_hd Z))) (nf (z_tl Z)))) s.heap.size = A at hD ⊢
  have hA : ∀ q : Nat, s.heap.size ≤ q → A q := fun q h => by rw [← hAe]; exact Or.inr h
  have hS : va_S A s.heap s.heap [] := va_S.rf
  have hl := lv_entry ([.ref (ad 11), .int (nI (th + 256 * bo)), .int (nI (f)), .int (nI (q)), .int (nI (pr))]) (n := 9) (Nat.le_of_ble_eq_true rfl)
  rw [lg_entry_eq]
  generalize (lg_sl ([.ref (ad 11), .int (nI (th + 256 * bo)), .int (nI (f)), .int (nI (q)), .int (nI (pr))]) ++ List.replicate (9 - (lg_sl ([.ref (ad 11), .int (nI (th + 256 * bo)), .int (nI (f)), .int (nI (q)), .int (nI (pr))])).length) Slot.unset).toArray = ls at hl ⊢
  have hl : lv_has ls 9 [(0, .ref (ad 11)), (1, .int (nI (th + 256 * bo))), (2, .int (nI (f))), (3, .int (nI (q))), (4, .int (nI (pr)))] := hl
  have hw1 := hw.1
  have hw2 := hw.2.1
  have hp8 := pw_8 hw1
  have hpp := pw_pos (s_n σ)
  have hov := ov_lt hw
  have hmo := mo_lt hw
  have hof := of_lt hw
  have hcl := cntN_le (isRS σ f) (2 ^ s_n σ)
  have hbl := bit_lt2 (bo.testBit f)
  refine lv_iload_n hx hb dX4_spread_0 rfl (lv_at hl 2 rfl) ?_
  refine lv_iload_n hx hb dX4_spread_1 rfl (lv_at hl 1 rfl) ?_
  refine cr_sn (host := "NumberFerries") (n := 2) (As := [.int (nI (f)), .int (nI (th + 256 * bo))]) (rest := []) ⟨hx, hb, hml, hown, hts⟩ (k_X10_bankOf l f th bo (by omega) (by omega) (by omega)) (hN _ (List.mem_of_getElem? (i := 3) rfl)) (hts _ smX10_bankOf) (hts _ iniX10) (gc_of cdX10_bankOf) (by decide +kernel) ⟨Nat.le_of_ble_eq_true rfl, Nat.le_of_ble_eq_true rfl⟩ rfl hl.1 rfl (Nat.le_of_ble_eq_true rfl) dX4_spread_2 ⟨Nat.zero_le _, Nat.zero_le _⟩ ?_
  refine lv_istore (lv' := [(5, .int (nI ((Nat.testBit bo f).toNat))), (0, .ref (ad 11)), (1, .int (nI (th + 256 * bo))), (2, .int (nI (f))), (3, .int (nI (q))), (4, .int (nI (pr)))]) hx hb dX4_spread_5 hl (by decide) rfl (fun ls hl => ?_)
  refine lv_iconst (v := nI 0) hx hb dX4_spread_7 (by decide) ?_
  refine lv_istore (lv' := [(6, .int (nI (0))), (5, .int (nI ((Nat.testBit bo f).toNat))), (0, .ref (ad 11)), (1, .int (nI (th + 256 * bo))), (2, .int (nI (f))), (3, .int (nI (q))), (4, .int (nI (pr)))]) hx hb dX4_spread_8 hl (by decide) rfl (fun ls hl => ?_)
  have lp : ∀ (k_lp j : Nat) (ls : Array Slot) (H : Heap) (locs : List Loc) (y : Nat), j + k_lp = fc f → y ≤ 2 ^ s_n σ → cntN (isRS σ f) y = j → va_P D vwCl (cw cy ad aw σ (ju_tl (ju_hd (ju_wa (ju_cb (ju_co (ju_fc (ju_fi J (nf fi)) (nf fc)) (nf (z_co (spX σ (th + 256 * bo) f q pr Z y)))) (nf (z_cb (spX σ (th + 256 * bo) f q pr Z y)))) (nf (z_wa (spX σ (th + 256 * bo) f q pr Z y)))) (nf (z_hd (spX σ (th + 256 * bo) f q pr Z y)))) (nf (z_tl (spX σ (th + 256 * bo) f q pr Z y))))) H → va_D A (cw cy ad aw σ (ju_tl (ju_hd (ju_wa (ju_cb (ju_co (ju_fc (ju_fi J (nf fi)) (nf fc)) (nf (z_co (spX σ (th + 256 * bo) f q pr Z y)))) (nf (z_cb (spX σ (th + 256 * bo) f q pr Z y)))) (nf (z_wa (spX σ (th + 256 * bo) f q pr Z y)))) (nf (z_hd (spX σ (th + 256 * bo) f q pr Z y)))) (nf (z_tl (spX σ (th + 256 * bo) f q pr Z y))))) → va_S A s.heap H locs → lv_has ls 9 [(6, .int (nI (j))), (5, .int (nI ((Nat.testBit bo f).toNat))), (0, .ref (ad 11)), (1, .int (nI (th + 256 * bo))), (2, .int (nI (f))), (3, .int (nI (q))), (4, .int (nI (pr)))] → W p l e (headSpec qX4_spread (rq 2)).room s m ([.ref (ad 11), .int (nI (th + 256 * bo)), .int (nI (f)), .int (nI (q)), .int (nI (pr))] : List Value).toArray below meth c H locs 0 0 (MQ below (va_Qv (fun _ : Unit => True) (fun u t => va_P D vwCl ((fun _ : Unit => (cw cy ad aw σ (ju_tl (ju_hd (ju_wa (ju_cb (ju_co (ju_fc (ju_fi J (nf fi)) (nf fc)) (nf (z_co (spX σ (th + 256 * bo) f q pr Z (2 ^ s_n σ))))) (nf (z_cb (spX σ (th + 256 * bo) f q pr Z (2 ^ s_n σ))))) (nf (z_wa (spX σ (th + 256 * bo) f q pr Z (2 ^ s_n σ))))) (nf (z_hd (spX σ (th + 256 * bo) f q pr Z (2 ^ s_n σ))))) (nf (z_tl (spX σ (th + 256 * bo) f q pr Z (2 ^ s_n σ))))))) u) t.heap) A) ([.ref (ad 11), .int (nI (th + 256 * bo)), .int (nI (f)), .int (nI (q)), .int (nI (pr))] : List Value).toArray s 0 0 A) (F0 m 10 ls []) := by
    intro k_lp
    induction k_lp with
    | zero =>
      intro j ls H locs y hi_lp hyn hyc hP hD hS hl
      refine lv_iload hx hb dX4_spread_10 (lv_at hl 0 rfl) ?_
      refine lv_aload_n hx hb dX4_spread_12 rfl (lv_at hl 2 rfl) ?_
      refine va_get (D := D) (ci := 4) (v := .ref (ad 13)) (C := RX4) (T := TX4) (N := 8) hx hb hts ni4 hown hK hP 11 (cw_c11 cy ad aw σ (ju_tl (ju_hd (ju_wa (ju_cb (ju_co (ju_fc (ju_fi J (nf fi)) (nf fc)) (nf (z_co (spX σ (th + 256 * bo) f q pr Z y)))) (nf (z_cb (spX σ (th + 256 * bo) f q pr Z y)))) (nf (z_wa (spX σ (th + 256 * bo) f q pr Z y)))) (nf (z_hd (spX σ (th + 256 * bo) f q pr Z y)))) (nf (z_tl (spX σ (th + 256 * bo) f q pr Z y))))) rfl 2 (by decide) (hts _ flX4_15) (fun _ h => h) rfl dX4_spread_13 ?_
      refine lv_iload_n hx hb dX4_spread_16 rfl (lv_at hl 4 rfl) ?_
      refine ln_iald (v := (nI (fc f))) hx hb hK hP 13 (cw_c13 cy ad aw σ (ju_tl (ju_hd (ju_wa (ju_cb (ju_co (ju_fc (ju_fi J (nf fi)) (nf fc)) (nf (z_co (spX σ (th + 256 * bo) f q pr Z y)))) (nf (z_cb (spX σ (th + 256 * bo) f q pr Z y)))) (nf (z_wa (spX σ (th + 256 * bo) f q pr Z y)))) (nf (z_hd (spX σ (th + 256 * bo) f q pr Z y)))) (nf (z_tl (spX σ (th + 256 * bo) f q pr Z y))))) (by omega) (by decide) rfl dX4_spread_17 ?_
      refine ln_icmp_ge (tgt := 83) hx hb dX4_spread_18 (by decide) (by omega) (by omega) (fun c18 => ?_) (fun c18 => ?_)
      · exact rw_v hx hb hr hlocks hS () (trivial) (by show va_P D vwCl (cw cy ad aw σ (ju_tl (ju_hd (ju_wa (ju_cb (ju_co (ju_fc (ju_fi J (nf fi)) (nf fc)) (nf (z_co (spX σ (th + 256 * bo) f q pr Z (2 ^ s_n σ))))) (nf (z_cb (spX σ (th + 256 * bo) f q pr Z (2 ^ s_n σ))))) (nf (z_wa (spX σ (th + 256 * bo) f q pr Z (2 ^ s_n σ))))) (nf (z_hd (spX σ (th + 256 * bo) f q pr Z (2 ^ s_n σ))))) (nf (z_tl (spX σ (th + 256 * bo) f q pr Z (2 ^ s_n σ)))))) _; rw [← sp_end ht hyn (by rw [hyc]; omega)]; exact hP) dX4_spread_83
      · exact absurd c18 (by omega)
    | succ k_lp ih_lp =>
      intro j ls H locs y hi_lp hyn hyc hP hD hS hl
      refine lv_iload hx hb dX4_spread_10 (lv_at hl 0 rfl) ?_
      refine lv_aload_n hx hb dX4_spread_12 rfl (lv_at hl 2 rfl) ?_
      refine va_get (D := D) (ci := 4) (v := .ref (ad 13)) (C := RX4) (T := TX4) (N := 8) hx hb hts ni4 hown hK hP 11 (cw_c11 cy ad aw σ (ju_tl (ju_hd (ju_wa (ju_cb (ju_co (ju_fc (ju_fi J (nf fi)) (nf fc)) (nf (z_co (spX σ (th + 256 * bo) f q pr Z y)))) (nf (z_cb (spX σ (th + 256 * bo) f q pr Z y)))) (nf (z_wa (spX σ (th + 256 * bo) f q pr Z y)))) (nf (z_hd (spX σ (th + 256 * bo) f q pr Z y)))) (nf (z_tl (spX σ (th + 256 * bo) f q pr Z y))))) rfl 2 (by decide) (hts _ flX4_15) (fun _ h => h) rfl dX4_spread_13 ?_
      refine lv_iload_n hx hb dX4_spread_16 rfl (lv_at hl 4 rfl) ?_
      refine ln_iald (v := (nI (fc f))) hx hb hK hP 13 (cw_c13 cy ad aw σ (ju_tl (ju_hd (ju_wa (ju_cb (ju_co (ju_fc (ju_fi J (nf fi)) (nf fc)) (nf (z_co (spX σ (th + 256 * bo) f q pr Z y)))) (nf (z_cb (spX σ (th + 256 * bo) f q pr Z y)))) (nf (z_wa (spX σ (th + 256 * bo) f q pr Z y)))) (nf (z_hd (spX σ (th + 256 * bo) f q pr Z y)))) (nf (z_tl (spX σ (th + 256 * bo) f q pr Z y))))) (by omega) (by decide) rfl dX4_spread_17 ?_
      refine ln_icmp_ge (tgt := 83) hx hb dX4_spread_18 (by decide) (by omega) (by omega) (fun c18 => ?_) (fun c18 => ?_)
      · exact absurd c18 (by omega)
      · obtain ⟨x, hx1, hx2, hx3, hx4, hx5⟩ := sp_find (σ := σ) (bo := bo) (q := q) (pr := pr) (Z := Z) ht hok (by omega) hyc
        rw [hx5] at hP hD
        have hzk := spX_ok (σ := σ) (f := f) (q := q) hz hs hpr x
        have hzs := hzk.2 (th + 256 * bo)
        have hto := stp_lt (show th + 256 * bo < 2048 by omega) (show f < 3 by omega) (show x < 256 by omega)
        have hzc := hzk.1.1 _ hto
        have hzt := hzk.1.2 q hq
        have hP : va_P D vwCl (cw cy ad aw σ (ju_tl (ju_hd (ju_wa (ju_cb (ju_co (ju_fc (ju_fi J (nf fi)) (nf fc)) (nf (z_co (spX σ (th + 256 * bo) f q pr Z x)))) (nf (z_cb (spX σ (th + 256 * bo) f q pr Z x)))) (nf (z_wa (spX σ (th + 256 * bo) f q pr Z x)))) (nf (z_hd (spX σ (th + 256 * bo) f q pr Z x)))) (nf (z_tl (spX σ (th + 256 * bo) f q pr Z x))))) H := hP
        have hD : va_D A (cw cy ad aw σ (ju_tl (ju_hd (ju_wa (ju_cb (ju_co (ju_fc (ju_fi J (nf fi)) (nf fc)) (nf (z_co (spX σ (th + 256 * bo) f q pr Z x)))) (nf (z_cb (spX σ (th + 256 * bo) f q pr Z x)))) (nf (z_wa (spX σ (th + 256 * bo) f q pr Z x)))) (nf (z_hd (spX σ (th + 256 * bo) f q pr Z x)))) (nf (z_tl (spX σ (th + 256 * bo) f q pr Z x))))) := hD
        refine lv_aload_n hx hb dX4_spread_21 rfl (lv_at hl 2 rfl) ?_
        refine va_get (D := D) (ci := 4) (v := .ref (ad 12)) (C := RX4) (T := TX4) (N := 8) hx hb hts ni4 hown hK hP 11 (cw_c11 cy ad aw σ (ju_tl (ju_hd (ju_wa (ju_cb (ju_co (ju_fc (ju_fi J (nf fi)) (nf fc)) (nf (z_co (spX σ (th + 256 * bo) f q pr Z x)))) (nf (z_cb (spX σ (th + 256 * bo) f q pr Z x)))) (nf (z_wa (spX σ (th + 256 * bo) f q pr Z x)))) (nf (z_hd (spX σ (th + 256 * bo) f q pr Z x)))) (nf (z_tl (spX σ (th + 256 * bo) f q pr Z x))))) rfl 1 (by decide) (hts _ flX4_9) (fun _ h => h) rfl dX4_spread_22 ?_
        refine lv_iload_n hx hb dX4_spread_25 rfl (lv_at hl 4 rfl) ?_
        refine lv_sipush (v := nI 256) hx hb dX4_spread_26 (by decide) ?_
        refine ln_imul hx hb dX4_spread_29 ?_
        refine lv_iload hx hb dX4_spread_30 (lv_at hl 0 rfl) ?_
        refine ln_iadd hx hb dX4_spread_32 ?_
        refine ln_iald (v := (nI (fi ((f * 256) + j)))) hx hb hK hP 12 (cw_c12 cy ad aw σ (ju_tl (ju_hd (ju_wa (ju_cb (ju_co (ju_fc (ju_fi J (nf fi)) (nf fc)) (nf (z_co (spX σ (th + 256 * bo) f q pr Z x)))) (nf (z_cb (spX σ (th + 256 * bo) f q pr Z x)))) (nf (z_wa (spX σ (th + 256 * bo) f q pr Z x)))) (nf (z_hd (spX σ (th + 256 * bo) f q pr Z x)))) (nf (z_tl (spX σ (th + 256 * bo) f q pr Z x))))) (by omega) (by decide) rfl dX4_spread_33 ?_
        refine ln_nat (show fi ((f * 256) + j) = x from by rw [← hx4]; congr 1; omega) ?_
        refine lv_istore (lv' := [(7, .int (nI (x))), (6, .int (nI (j))), (5, .int (nI ((Nat.testBit bo f).toNat))), (0, .ref (ad 11)), (1, .int (nI (th + 256 * bo))), (2, .int (nI (f))), (3, .int (nI (q))), (4, .int (nI (pr)))]) hx hb dX4_spread_34 hl (by decide) rfl (fun ls hl => ?_)
        refine lv_iload hx hb dX4_spread_36 (lv_at hl 2 rfl) ?_
        refine lv_iload hx hb dX4_spread_38 (lv_at hl 0 rfl) ?_
        refine lv_iload_n hx hb dX4_spread_40 rfl (lv_at hl 4 rfl) ?_
        refine cr_sn (host := "NumberFerries") (n := 3) (As := [.int (nI ((Nat.testBit bo f).toNat)), .int (nI (x)), .int (nI (th + 256 * bo))]) (rest := []) ⟨hx, hb, hml, hown, hts⟩ (k_X10_allOn l ((Nat.testBit bo f).toNat) x th bo (by omega) (by omega) (by omega) (by omega)) (hN _ (List.mem_of_getElem? (i := 2) rfl)) (hts _ smX10_allOn) (hts _ iniX10) (gc_of cdX10_allOn) (by decide +kernel) ⟨Nat.le_of_ble_eq_true rfl, Nat.le_of_ble_eq_true rfl⟩ rfl hl.1 rfl (Nat.le_of_ble_eq_true rfl) dX4_spread_41 ⟨Nat.zero_le _, Nat.zero_le _⟩ ?_
        refine ln_eq (show (bI (onB (decide (((Nat.testBit bo f).toNat) = 1)) x th)) = (bI (onB (bo.testBit f) x th)) from by rw [bit_eq1]) ?_
        refine lb_if_eq (tgt := 77) hx hb dX4_spread_44 (by decide) (fun c44 => ?_) (fun c44 => ?_)
        · refine ln_iinc (lv' := [(6, .int (nI (j + 1))), (7, .int (nI (x))), (5, .int (nI ((Nat.testBit bo f).toNat))), (0, .ref (ad 11)), (1, .int (nI (th + 256 * bo))), (2, .int (nI (f))), (3, .int (nI (q))), (4, .int (nI (pr)))]) hx hb dX4_spread_77 hl (k := 1) (n := 1) rfl (by decide) rfl (fun ls hl => ?_)
          refine lv_goto (tgt := 10) hx hb dX4_spread_80 (by decide) ?_
          have hl : lv_has ls 9 [(6, .int (nI (j + 1))), (5, .int (nI ((Nat.testBit bo f).toNat))), (0, .ref (ad 11)), (1, .int (nI (th + 256 * bo))), (2, .int (nI (f))), (3, .int (nI (q))), (4, .int (nI (pr)))] := lv_sub hl [0, 2, 3, 4, 5, 6, 7] rfl
          have hsx : spX σ (th + 256 * bo) f q pr Z (x + 1) = spX σ (th + 256 * bo) f q pr Z x := by rw [spX, if_neg (by rw [edge_th ht, c44, Bool.false_and]; decide)]
          have hP : va_P D vwCl (cw cy ad aw σ (ju_tl (ju_hd (ju_wa (ju_cb (ju_co (ju_fc (ju_fi J (nf fi)) (nf fc)) (nf (z_co (spX σ (th + 256 * bo) f q pr Z (x + 1))))) (nf (z_cb (spX σ (th + 256 * bo) f q pr Z (x + 1))))) (nf (z_wa (spX σ (th + 256 * bo) f q pr Z (x + 1))))) (nf (z_hd (spX σ (th + 256 * bo) f q pr Z (x + 1))))) (nf (z_tl (spX σ (th + 256 * bo) f q pr Z (x + 1)))))) H := by rw [hsx]; exact hP
          have hD : va_D A (cw cy ad aw σ (ju_tl (ju_hd (ju_wa (ju_cb (ju_co (ju_fc (ju_fi J (nf fi)) (nf fc)) (nf (z_co (spX σ (th + 256 * bo) f q pr Z (x + 1))))) (nf (z_cb (spX σ (th + 256 * bo) f q pr Z (x + 1))))) (nf (z_wa (spX σ (th + 256 * bo) f q pr Z (x + 1))))) (nf (z_hd (spX σ (th + 256 * bo) f q pr Z (x + 1))))) (nf (z_tl (spX σ (th + 256 * bo) f q pr Z (x + 1)))))) := va_D_map ((cw_ad _ _ _ _ _).trans (cw_ad _ _ _ _ _).symm) hD
          have hcx : cntN (isRS σ f) (x + 1) = j + 1 := by rw [← cntN_t hx2, hx3]
          exact ih_lp (j + 1) ls _ _ (x + 1) (by omega) (by omega) hcx hP hD hS hl
        · refine lv_iload_n hx hb dX4_spread_47 rfl (lv_at hl 5 rfl) ?_
          refine lv_iload hx hb dX4_spread_48 (lv_at hl 0 rfl) ?_
          refine cr_sn (host := "NumberFerries") (n := 2) (As := [.int (nI (f)), .int (nI (x))]) (rest := []) ⟨hx, hb, hml, hown, hts⟩ (k_X10_crossingOf l f x) (hN _ (List.mem_of_getElem? (i := 4) rfl)) (hts _ smX10_crossingOf) (hts _ iniX10) (gc_of cdX10_crossingOf) (by decide +kernel) ⟨Nat.le_of_ble_eq_true rfl, Nat.le_of_ble_eq_true rfl⟩ rfl hl.1 rfl (Nat.le_of_ble_eq_true rfl) dX4_spread_50 ⟨Nat.zero_le _, Nat.zero_le _⟩ ?_
          refine lv_istore (lv' := [(8, .int (nI (256 * f + x))), (7, .int (nI (x))), (6, .int (nI (j))), (5, .int (nI ((Nat.testBit bo f).toNat))), (0, .ref (ad 11)), (1, .int (nI (th + 256 * bo))), (2, .int (nI (f))), (3, .int (nI (q))), (4, .int (nI (pr)))]) hx hb dX4_spread_53 hl (by decide) rfl (fun ls hl => ?_)
          refine lv_aload_n hx hb dX4_spread_55 rfl (lv_at hl 4 rfl) ?_
          refine lv_iload_n hx hb dX4_spread_56 rfl (lv_at hl 5 rfl) ?_
          refine lv_iload hx hb dX4_spread_57 (lv_at hl 0 rfl) ?_
          refine cr_sn (host := "NumberFerries") (n := 2) (As := [.int (nI (th + 256 * bo)), .int (nI (256 * f + x))]) (rest := [.ref (ad 11)]) ⟨hx, hb, hml, hown, hts⟩ (k_X10_banksBehind l th bo f x (by omega) (by omega) (by omega) (by omega)) (hN _ (List.mem_of_getElem? (i := 5) rfl)) (hts _ smX10_banksBehind) (hts _ iniX10) (gc_of cdX10_banksBehind) (by decide +kernel) ⟨Nat.le_of_ble_eq_true rfl, Nat.le_of_ble_eq_true rfl⟩ rfl hl.1 rfl (Nat.le_of_ble_eq_true rfl) dX4_spread_59 ⟨Nat.zero_le _, Nat.zero_le _⟩ ?_
          refine ln_nat (show (th ^^^ x) + 256 * (bo ^^^ 2 ^ f) = stp (th + 256 * bo) f x from (bb_eq ht (by omega)).symm) ?_
          refine lv_iload hx hb dX4_spread_62 (lv_at hl 0 rfl) ?_
          refine lv_aload_n hx hb dX4_spread_64 rfl (lv_at hl 4 rfl) ?_
          refine va_get (D := D) (ci := 4) (v := .ref (ad 14)) (C := RX4) (T := TX4) (N := 8) hx hb hts ni4 hown hK hP 11 (cw_c11 cy ad aw σ (ju_tl (ju_hd (ju_wa (ju_cb (ju_co (ju_fc (ju_fi J (nf fi)) (nf fc)) (nf (z_co (spX σ (th + 256 * bo) f q pr Z x)))) (nf (z_cb (spX σ (th + 256 * bo) f q pr Z x)))) (nf (z_wa (spX σ (th + 256 * bo) f q pr Z x)))) (nf (z_hd (spX σ (th + 256 * bo) f q pr Z x)))) (nf (z_tl (spX σ (th + 256 * bo) f q pr Z x))))) rfl 3 (by decide) (hts _ flX4_18) (fun _ h => h) rfl dX4_spread_65 ?_
          refine lv_iload_n hx hb dX4_spread_68 rfl (lv_at hl 5 rfl) ?_
          refine ln_iald (v := (nI ((z_co (spX σ (th + 256 * bo) f q pr Z x)) (th + 256 * bo)))) hx hb hK hP 14 (cw_c14 cy ad aw σ (ju_tl (ju_hd (ju_wa (ju_cb (ju_co (ju_fc (ju_fi J (nf fi)) (nf fc)) (nf (z_co (spX σ (th + 256 * bo) f q pr Z x)))) (nf (z_cb (spX σ (th + 256 * bo) f q pr Z x)))) (nf (z_wa (spX σ (th + 256 * bo) f q pr Z x)))) (nf (z_hd (spX σ (th + 256 * bo) f q pr Z x)))) (nf (z_tl (spX σ (th + 256 * bo) f q pr Z x))))) (by omega) (by decide) rfl dX4_spread_69 ?_
          refine lv_iload hx hb dX4_spread_70 (lv_at hl 8 rfl) ?_
          refine ln_iadd hx hb dX4_spread_72 ?_
          refine lv_iload_n hx hb dX4_spread_73 rfl (lv_at hl 7 rfl) ?_
          refine cr_vv (n := 4) (As := [.int (nI (stp (th + 256 * bo) f x)), .int (nI (256 * f + x)), .int (nI (((z_co (spX σ (th + 256 * bo) f q pr Z x)) (th + 256 * bo)) + pr)), .int (nI (q))]) (rest := []) ⟨hx, hb, hml, hown, hts⟩ (k_X4_reach l D cy ad aw σ J fi fc (spX σ (th + 256 * bo) f q pr Z x) (stp (th + 256 * bo) f x) (256 * f + x) (((z_co (spX σ (th + 256 * bo) f q pr Z x)) (th + 256 * bo)) + pr) q hto hq (by omega) (by omega) (by omega)) gvX4_59 (by decide +kernel) ⟨Nat.le_of_ble_eq_true rfl, Nat.le_of_ble_eq_true rfl⟩ hK hN hP hD hS hA 11 (cw_c11 cy ad aw σ (ju_tl (ju_hd (ju_wa (ju_cb (ju_co (ju_fc (ju_fi J (nf fi)) (nf fc)) (nf (z_co (spX σ (th + 256 * bo) f q pr Z x)))) (nf (z_cb (spX σ (th + 256 * bo) f q pr Z x)))) (nf (z_wa (spX σ (th + 256 * bo) f q pr Z x)))) (nf (z_hd (spX σ (th + 256 * bo) f q pr Z x)))) (nf (z_tl (spX σ (th + 256 * bo) f q pr Z x))))) rfl rfl hl.1 rfl (Nat.le_of_ble_eq_true rfl) dX4_spread_74 ⟨Nat.zero_le _, Nat.zero_le _⟩ (fun _ => (cw_ad _ _ _ _ _).trans (cw_ad _ _ _ _ _).symm) (fun u1 H locs hpu1 hP hD hS => ?_)
          have hP : va_P D vwCl (cw cy ad aw σ (ju_tl (ju_hd (ju_wa (ju_cb (ju_co (ju_fc (ju_fi J (nf fi)) (nf fc)) (nf (z_co (rcF (stp (th + 256 * bo) f x) (256 * f + x) (((z_co (spX σ (th + 256 * bo) f q pr Z x)) (th + 256 * bo)) + pr) q (spX σ (th + 256 * bo) f q pr Z x))))) (nf (z_cb (rcF (stp (th + 256 * bo) f x) (256 * f + x) (((z_co (spX σ (th + 256 * bo) f q pr Z x)) (th + 256 * bo)) + pr) q (spX σ (th + 256 * bo) f q pr Z x))))) (nf (z_wa (rcF (stp (th + 256 * bo) f x) (256 * f + x) (((z_co (spX σ (th + 256 * bo) f q pr Z x)) (th + 256 * bo)) + pr) q (spX σ (th + 256 * bo) f q pr Z x))))) (nf (z_hd (rcF (stp (th + 256 * bo) f x) (256 * f + x) (((z_co (spX σ (th + 256 * bo) f q pr Z x)) (th + 256 * bo)) + pr) q (spX σ (th + 256 * bo) f q pr Z x))))) (nf (z_tl (rcF (stp (th + 256 * bo) f x) (256 * f + x) (((z_co (spX σ (th + 256 * bo) f q pr Z x)) (th + 256 * bo)) + pr) q (spX σ (th + 256 * bo) f q pr Z x)))))) H := hP
          have hD : va_D A (cw cy ad aw σ (ju_tl (ju_hd (ju_wa (ju_cb (ju_co (ju_fc (ju_fi J (nf fi)) (nf fc)) (nf (z_co (rcF (stp (th + 256 * bo) f x) (256 * f + x) (((z_co (spX σ (th + 256 * bo) f q pr Z x)) (th + 256 * bo)) + pr) q (spX σ (th + 256 * bo) f q pr Z x))))) (nf (z_cb (rcF (stp (th + 256 * bo) f x) (256 * f + x) (((z_co (spX σ (th + 256 * bo) f q pr Z x)) (th + 256 * bo)) + pr) q (spX σ (th + 256 * bo) f q pr Z x))))) (nf (z_wa (rcF (stp (th + 256 * bo) f x) (256 * f + x) (((z_co (spX σ (th + 256 * bo) f q pr Z x)) (th + 256 * bo)) + pr) q (spX σ (th + 256 * bo) f q pr Z x))))) (nf (z_hd (rcF (stp (th + 256 * bo) f x) (256 * f + x) (((z_co (spX σ (th + 256 * bo) f q pr Z x)) (th + 256 * bo)) + pr) q (spX σ (th + 256 * bo) f q pr Z x))))) (nf (z_tl (rcF (stp (th + 256 * bo) f x) (256 * f + x) (((z_co (spX σ (th + 256 * bo) f q pr Z x)) (th + 256 * bo)) + pr) q (spX σ (th + 256 * bo) f q pr Z x)))))) := hD
          refine ln_iinc (lv' := [(6, .int (nI (j + 1))), (8, .int (nI (256 * f + x))), (7, .int (nI (x))), (5, .int (nI ((Nat.testBit bo f).toNat))), (0, .ref (ad 11)), (1, .int (nI (th + 256 * bo))), (2, .int (nI (f))), (3, .int (nI (q))), (4, .int (nI (pr)))]) hx hb dX4_spread_77 hl (k := 2) (n := 1) rfl (by decide) rfl (fun ls hl => ?_)
          refine lv_goto (tgt := 10) hx hb dX4_spread_80 (by decide) ?_
          have hl : lv_has ls 9 [(6, .int (nI (j + 1))), (5, .int (nI ((Nat.testBit bo f).toNat))), (0, .ref (ad 11)), (1, .int (nI (th + 256 * bo))), (2, .int (nI (f))), (3, .int (nI (q))), (4, .int (nI (pr)))] := lv_sub hl [0, 3, 4, 5, 6, 7, 8] rfl
          have hsx : spX σ (th + 256 * bo) f q pr Z (x + 1) = rcF (stp (th + 256 * bo) f x) (256 * f + x) (z_co (spX σ (th + 256 * bo) f q pr Z x) (th + 256 * bo) + pr) q (spX σ (th + 256 * bo) f q pr Z x) := by rw [spX, if_pos (by rw [edge_th ht, c44, hx2]; rfl)]
          have hP : va_P D vwCl (cw cy ad aw σ (ju_tl (ju_hd (ju_wa (ju_cb (ju_co (ju_fc (ju_fi J (nf fi)) (nf fc)) (nf (z_co (spX σ (th + 256 * bo) f q pr Z (x + 1))))) (nf (z_cb (spX σ (th + 256 * bo) f q pr Z (x + 1))))) (nf (z_wa (spX σ (th + 256 * bo) f q pr Z (x + 1))))) (nf (z_hd (spX σ (th + 256 * bo) f q pr Z (x + 1))))) (nf (z_tl (spX σ (th + 256 * bo) f q pr Z (x + 1)))))) H := by rw [hsx]; exact hP
          have hD : va_D A (cw cy ad aw σ (ju_tl (ju_hd (ju_wa (ju_cb (ju_co (ju_fc (ju_fi J (nf fi)) (nf fc)) (nf (z_co (spX σ (th + 256 * bo) f q pr Z (x + 1))))) (nf (z_cb (spX σ (th + 256 * bo) f q pr Z (x + 1))))) (nf (z_wa (spX σ (th + 256 * bo) f q pr Z (x + 1))))) (nf (z_hd (spX σ (th + 256 * bo) f q pr Z (x + 1))))) (nf (z_tl (spX σ (th + 256 * bo) f q pr Z (x + 1)))))) := va_D_map ((cw_ad _ _ _ _ _).trans (cw_ad _ _ _ _ _).symm) hD
          have hcx : cntN (isRS σ f) (x + 1) = j + 1 := by rw [← cntN_t hx2, hx3]
          exact ih_lp (j + 1) ls _ _ (x + 1) (by omega) (by omega) hcx hP hD hS hl
  have hl : lv_has ls 9 [(6, .int (nI (0))), (5, .int (nI ((Nat.testBit bo f).toNat))), (0, .ref (ad 11)), (1, .int (nI (th + 256 * bo))), (2, .int (nI (f))), (3, .int (nI (q))), (4, .int (nI (pr)))] := lv_sub hl [0, 1, 2, 3, 4, 5, 6] rfl
  have hP : va_P D vwCl (cw cy ad aw σ (ju_tl (ju_hd (ju_wa (ju_cb (ju_co (ju_fc (ju_fi J (nf fi)) (nf fc)) (nf (z_co (spX σ (th + 256 * bo) f q pr Z 0)))) (nf (z_cb (spX σ (th + 256 * bo) f q pr Z 0)))) (nf (z_wa (spX σ (th + 256 * bo) f q pr Z 0)))) (nf (z_hd (spX σ (th + 256 * bo) f q pr Z 0)))) (nf (z_tl (spX σ (th + 256 * bo) f q pr Z 0))))) s.heap := hP
  have hD : va_D A (cw cy ad aw σ (ju_tl (ju_hd (ju_wa (ju_cb (ju_co (ju_fc (ju_fi J (nf fi)) (nf fc)) (nf (z_co (spX σ (th + 256 * bo) f q pr Z 0)))) (nf (z_cb (spX σ (th + 256 * bo) f q pr Z 0)))) (nf (z_wa (spX σ (th + 256 * bo) f q pr Z 0)))) (nf (z_hd (spX σ (th + 256 * bo) f q pr Z 0)))) (nf (z_tl (spX σ (th + 256 * bo) f q pr Z 0))))) := hD
  exact lp (fc f - 0) 0 ls _ _ 0 (by omega) (Nat.zero_le _) rfl hP hD hS hl
