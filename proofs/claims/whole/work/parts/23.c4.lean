theorem or_pw {t l : Nat} (h : l < 2 ^ t) : 2 ^ t ||| l = 2 ^ t + l := by
  have := Nat.two_pow_add_eq_or_of_lt h 1
  rw [Nat.mul_one] at this
  exact this.symm
theorem pdA_lo {σ : Sg} {t l h : Nat} (hl : l < 2 ^ t) (ht : t < s_n σ) : pdA σ (2 ^ t + l) h = pd σ h t + pdA σ l h := by
  have hb : ∀ k, (2 ^ t + l).testBit k = (decide (k = t) || l.testBit k) := by
    intro k
    rw [← or_pw hl, Nat.testBit_or, Nat.testBit_two_pow]
    congr 1
    by_cases q : k = t
    · subst q; simp
    · rw [decide_eq_false q, decide_eq_false (fun r => q r.symm)]
  have hlt : l.testBit t = false := Nat.testBit_lt_two_pow hl
  have key : ∀ n, sumN (fun k => if (2 ^ t + l).testBit k then pd σ h k else 0) n = (if t < n then pd σ h t else 0) + sumN (fun k => if l.testBit k then pd σ h k else 0) n := by
    intro n
    induction n with
    | zero => rfl
    | succ n ih =>
      rw [sumN, sumN, ih, hb n]
      by_cases q : n = t
      · subst q
        rw [decide_eq_true rfl, Bool.true_or, if_pos rfl, hlt, if_neg (by omega), if_pos (by omega), if_neg (by decide)]
        omega
      · rw [decide_eq_false q, Bool.false_or]
        rcases (show t < n ∨ ¬ t < n by omega) with r | r
        · rw [if_pos r, if_pos (show t < n + 1 by omega)]; omega
        · rw [if_neg r, if_neg (show ¬ t < n + 1 by omega)]; omega
  unfold pdA
  rw [key, if_pos ht]
theorem pd_hat {σ : Sg} (hw : wfS σ) {t : Nat} (ht : t < s_n σ) (c : (decide (s_th σ (6 * t) < 2) && !(s_of σ).testBit t) = true) : s_th σ (6 * t + 1) + s_th σ (6 * t + 3) = pd σ (s_of σ) t := by
  rw [Bool.and_eq_true, Bool.not_eq_true'] at c
  rw [pd, c.2]; rfl
theorem pd_nohat {σ : Sg} (hw : wfS σ) {t : Nat} (ht : t < s_n σ) (c : (decide (s_th σ (6 * t) < 2) && !(s_of σ).testBit t) = false) : s_th σ (6 * t + 1) + 0 = pd σ (s_of σ) t := by
  have h1 := hw.2.2.1 t (by have := hw.1; omega)
  unfold pd
  cases hq : (s_of σ).testBit t with
  | true => rfl
  | false =>
    rw [hq] at c
    have : ¬ s_th σ (6 * t) < 2 := fun r => by rw [decide_eq_true r] at c; cases c
    rw [h1.2.2.2.2.2.2 (by omega)]; rfl
theorem pdA_0 (σ : Sg) (h : Nat) : pdA σ 0 h = 0 := by
  have h0 : pdA σ 0 h = sumN (fun _ => 0) (s_n σ) := sumN_cong (fun k _ => by rw [Nat.zero_testBit]; rfl)
  have h1 : sumN (fun _ => 0) (s_n σ) ≤ s_n σ * 0 := sumN_le (fun _ _ => Nat.le_refl 0)
  omega
def pbOk (σ : Sg) (pb : Nat → Int32) (n : Nat) : Prop := ∀ x, x < n → pb x = nI (pdA σ x (s_of σ))
theorem pbOk_s {σ : Sg} {pb : Nat → Int32} {t l : Nat} (hl : l < 2 ^ t) (ht : t < s_n σ) (h : pbOk σ pb (2 ^ t + l)) : pbOk σ (upd pb (2 ^ t ||| l) (nI (pd σ (s_of σ) t) + pb l)) (2 ^ t + (l + 1)) := by
  intro x hx
  unfold upd
  rw [or_pw hl]
  by_cases q : x = 2 ^ t + l
  · rw [if_pos q, q, h l (by omega), nI_add, pdA_lo hl ht]
  · rw [if_neg q]; exact h x (by omega)
theorem cp_6_1 (cy : Nat → ClassId) (ad aw : Nat → Nat) (σ : Sg) (J : Js) (a b : Nat) : (cw cy ad aw σ J).set 6 (ad 6, .inr (5, (cf6 ad σ J).set 1 (.int (nI (a + 256 * b))))) = cw cy ad aw (su_mo (su_ov σ a) b) J := rfl
theorem or_1 (a b : Nat) : 1 * 2 ^ a ||| b = 2 ^ a ||| b := by rw [Nat.one_mul]
set_option maxHeartbeats 4000000 in
set_option maxRecDepth 100000 in
theorem k_X3_weighAll (l : Launch) (D : va_G) (cy : Nat → ClassId) (ad aw : Nat → Nat) (σ : Sg) (J : Js)  (hw : wfS σ) (hj2 : j_wh J = whN σ) (hpb : j_pb J 0 = nI 0) : MV l yX3_weighAll qX3_weighAll 1 [.ref (ad 3)] D cy (cw cy ad aw σ J) (fun pb : Nat → Int32 => pbOk σ pb (2 ^ s_n σ)) (fun pb : Nat → Int32 => cw cy ad aw σ (ju_pb J pb)) := by
  intro sz
  refine Met.ofW (cc := cX3_weighAll) (maxL := 4) (ret := none) (by decide) rfl ?_
  intro p e s m args below meth c s₁ B hml hv
  obtain ⟨rfl, rfl, hP, hK, hN, hD0⟩ := hv
  have hx := B.exec
  have hb := B.bytes
  have hr := B.returns
  have hlocks := B.notSynchronized
  have hts : ∀ cq ∈ tg, cq.before ([.ref (ad 3)] : List Value).toArray s = true := fun cq h => atoms_spec (ws := qX3_weighAll) B.pre cq (List.mem_cons_of_mem _ h)
  have hown : s.vm.findClass RX3 = some m.cls := findClass_of_methodNamed B.named
  have hD := hD0.self (sz := s.heap.size)
  generalize hAe : va_A (cw cy ad aw σ J) s.heap.size = A at hD ⊢
  have hA : ∀ q : Nat, s.heap.size ≤ q → A q := fun q h => by rw [← hAe]; exact Or.inr h
  have hS : va_S A s.heap s.heap [] := va_S.rf
  have hl := lv_entry ([.ref (ad 3)]) (n := 4) (Nat.le_of_ble_eq_true rfl)
  rw [lg_entry_eq]
  generalize (lg_sl ([.ref (ad 3)]) ++ List.replicate (4 - (lg_sl ([.ref (ad 3)])).length) Slot.unset).toArray = ls at hl ⊢
  have hl : lv_has ls 4 [(0, .ref (ad 3))] := hl
  have hw1 := hw.1
  have hw2 := hw.2.1
  have hp8 := pw_8 hw1
  have hpp := pw_pos (s_n σ)
  have hov := ov_lt hw
  have hmo := mo_lt hw
  have hof := of_lt hw
  refine lv_iconst (v := nI 0) hx hb dX3_weighAll_0 (by decide) ?_
  refine lv_istore_n (lv' := [(1, .int (nI (0))), (0, .ref (ad 3))]) hx hb dX3_weighAll_1 rfl hl (by decide) rfl (fun ls hl => ?_)
  have lp : ∀ (k_lp t : Nat) (ls : Array Slot) (H : Heap) (locs : List Loc) (pb : Nat → Int32), t + k_lp = s_n σ → pbOk σ pb (2 ^ t) → va_P D vwCl (cw cy ad aw σ (ju_pb J pb)) H → va_D A (cw cy ad aw σ (ju_pb J pb)) → va_S A s.heap H locs → lv_has ls 4 [(1, .int (nI (t))), (0, .ref (ad 3))] → W p l e (headSpec qX3_weighAll (rq 1)).room s m ([.ref (ad 3)] : List Value).toArray below meth c H locs 0 0 (MQ below (va_Qv (fun pb : Nat → Int32 => pbOk σ pb (2 ^ s_n σ)) (fun u t => va_P D vwCl ((fun pb : Nat → Int32 => cw cy ad aw σ (ju_pb J pb)) u) t.heap) A) ([.ref (ad 3)] : List Value).toArray s 0 0 A) (F0 m 2 ls []) := by
    intro k_lp
    induction k_lp with
    | zero =>
      intro t ls H locs pb hi_lp hok hP hD hS hl
      have hpt8 := fun q : t < 8 => pw_lt8 q
      have hppt := pw_pos t
      refine lv_iload_n hx hb dX3_weighAll_2 rfl (lv_at hl 0 rfl) ?_
      refine lv_aload_n hx hb dX3_weighAll_3 rfl (lv_at hl 1 rfl) ?_
      refine va_get (D := D) (ci := 3) (v := .int (nI (s_n σ))) (C := RX3) (T := TX3) (N := 9) hx hb hts ni3 hown hK hP 3 (cw_c3 cy ad aw σ (ju_pb J pb)) rfl 3 (by decide) (hts _ flX3_30) (fun _ h => h) rfl dX3_weighAll_4 ?_
      refine ln_icmp_ge (tgt := 81) hx hb dX3_weighAll_7 (by decide) (by omega) (by omega) (fun c7 => ?_) (fun c7 => ?_)
      · exact rw_v hx hb hr hlocks hS pb (by rw [← show t = s_n σ by omega]; exact hok) hP dX3_weighAll_81
      · exact absurd c7 (by omega)
    | succ k_lp ih_lp =>
      intro t ls H locs pb hi_lp hok hP hD hS hl
      have hpt8 := fun q : t < 8 => pw_lt8 q
      have hppt := pw_pos t
      refine lv_iload_n hx hb dX3_weighAll_2 rfl (lv_at hl 0 rfl) ?_
      refine lv_aload_n hx hb dX3_weighAll_3 rfl (lv_at hl 1 rfl) ?_
      refine va_get (D := D) (ci := 3) (v := .int (nI (s_n σ))) (C := RX3) (T := TX3) (N := 9) hx hb hts ni3 hown hK hP 3 (cw_c3 cy ad aw σ (ju_pb J pb)) rfl 3 (by decide) (hts _ flX3_30) (fun _ h => h) rfl dX3_weighAll_4 ?_
      refine ln_icmp_ge (tgt := 81) hx hb dX3_weighAll_7 (by decide) (by omega) (by omega) (fun c7 => ?_) (fun c7 => ?_)
      · exact absurd c7 (by omega)
      · refine lv_aload_n hx hb dX3_weighAll_10 rfl (lv_at hl 1 rfl) ?_
        refine va_get (D := D) (ci := 3) (v := .ref (ad 4)) (C := RX3) (T := TX3) (N := 9) hx hb hts ni3 hown hK hP 3 (cw_c3 cy ad aw σ (ju_pb J pb)) rfl 0 (by decide) (hts _ flX3_11) (fun _ h => h) rfl dX3_weighAll_11 ?_
        refine lv_iload_n hx hb dX3_weighAll_14 rfl (lv_at hl 0 rfl) ?_
        refine ln_aald (x := ad (21 + t)) hx hb hK hP 4 5 (cw_c4 cy ad aw σ (ju_pb J pb)) rfl (by omega) (by decide) rfl dX3_weighAll_15 ?_
        refine va_get (D := D) (ci := 8) (v := .int (nI (s_th σ (6 * t + 1)))) (C := RX8) (T := TX8) (N := 6) hx hb hts ni8 hown hK hP (21 + t) (cw_thing cy ad aw σ (ju_pb J pb) (t := t) (by omega)) rfl 1 (by decide) (hts _ flX3_142) (fun _ h => h) rfl dX3_weighAll_16 ?_
        refine lv_aload_n hx hb dX3_weighAll_19 rfl (lv_at hl 1 rfl) ?_
        refine lv_iload_n hx hb dX3_weighAll_20 rfl (lv_at hl 0 rfl) ?_
        refine cr_v (n := 1) (As := [.int (nI (t))]) (rest := [.int (nI (s_th σ (6 * t + 1)))]) ⟨hx, hb, hml, hown, hts⟩ (k_X3_hatIsOn l D cy ad aw σ (ju_pb J pb) t hw hj2 (by omega)) gvX3_145 (by decide +kernel) ⟨Nat.le_of_ble_eq_true rfl, Nat.le_of_ble_eq_true rfl⟩ hK hN hP 3 (cw_c3 cy ad aw σ (ju_pb J pb)) rfl rfl hl.1 rfl (Nat.le_of_ble_eq_true rfl) dX3_weighAll_21 ⟨Nat.zero_le _, Nat.zero_le _⟩ ?_
        refine lb_if_eq (tgt := 39) hx hb dX3_weighAll_24 (by decide) (fun c24 => ?_) (fun c24 => ?_)
        · refine lv_iconst (v := nI 0) hx hb dX3_weighAll_39 (by decide) ?_
          refine ln_iadd hx hb dX3_weighAll_40 ?_
          refine ln_nat (show (s_th σ (6 * t + 1)) + 0 = pd σ (s_of σ) t from by first | exact pd_hat hw (by omega) c24 | exact pd_nohat hw (by omega) c24) ?_
          refine lv_istore_n (lv' := [(2, .int (nI (pd σ (s_of σ) t))), (1, .int (nI (t))), (0, .ref (ad 3))]) hx hb dX3_weighAll_41 rfl hl (by decide) rfl (fun ls hl => ?_)
          refine lv_iconst (v := nI 0) hx hb dX3_weighAll_42 (by decide) ?_
          refine lv_istore_n (lv' := [(3, .int (nI (0))), (2, .int (nI (pd σ (s_of σ) t))), (1, .int (nI (t))), (0, .ref (ad 3))]) hx hb dX3_weighAll_43 rfl hl (by decide) rfl (fun ls hl => ?_)
          have lq : ∀ (k_lq q : Nat) (ls : Array Slot) (H : Heap) (locs : List Loc) (pb : Nat → Int32), q + k_lq = 2 ^ t → pbOk σ pb (2 ^ t + q) → va_P D vwCl (cw cy ad aw σ (ju_pb J pb)) H → va_D A (cw cy ad aw σ (ju_pb J pb)) → va_S A s.heap H locs → lv_has ls 4 [(3, .int (nI (q))), (2, .int (nI (pd σ (s_of σ) t))), (1, .int (nI (t))), (0, .ref (ad 3))] → W p l e (headSpec qX3_weighAll (rq 1)).room s m ([.ref (ad 3)] : List Value).toArray below meth c H locs 0 0 (MQ below (va_Qv (fun pb : Nat → Int32 => pbOk σ pb (2 ^ s_n σ)) (fun u t => va_P D vwCl ((fun pb : Nat → Int32 => cw cy ad aw σ (ju_pb J pb)) u) t.heap) A) ([.ref (ad 3)] : List Value).toArray s 0 0 A) (F0 m 44 ls []) := by
            intro k_lq
            induction k_lq with
            | zero =>
              intro q ls H locs pb hi_lq hok2 hP hD hS hl
              have hpt9 := hpt8 (by omega)
              refine lv_iload_n hx hb dX3_weighAll_44 rfl (lv_at hl 0 rfl) ?_
              have hpt9 := pw_lt8 (k := t) (by omega)
              refine lv_iconst (v := nI 1) hx hb dX3_weighAll_45 (by decide) ?_
              refine lv_iload_n hx hb dX3_weighAll_46 rfl (lv_at hl 2 rfl) ?_
              refine ln_ishl hx hb dX3_weighAll_47 (by omega) (by omega) ?_
              refine ln_icmp_ge (tgt := 75) hx hb dX3_weighAll_48 (by decide) (by omega) (by omega) (fun c48 => ?_) (fun c48 => ?_)
              · refine ln_iinc (lv' := [(1, .int (nI (t + 1))), (3, .int (nI (q))), (2, .int (nI (pd σ (s_of σ) t))), (0, .ref (ad 3))]) hx hb dX3_weighAll_75 hl (k := 2) (n := 1) rfl (by decide) rfl (fun ls hl => ?_)
                refine lv_goto (tgt := 2) hx hb dX3_weighAll_78 (by decide) ?_
                have hl : lv_has ls 4 [(1, .int (nI (t + 1))), (0, .ref (ad 3))] := lv_sub hl [0, 3] rfl
                exact ih_lp (t + 1) ls _ _ pb (by omega) (by have hpt := pw_pos t; rw [Nat.pow_succ, Nat.mul_two]; rw [show q = 2 ^ t by omega] at hok2; exact hok2) hP hD hS hl
              · exact absurd c48 (by omega)
            | succ k_lq ih_lq =>
              intro q ls H locs pb hi_lq hok2 hP hD hS hl
              have hpt9 := hpt8 (by omega)
              refine lv_iload_n hx hb dX3_weighAll_44 rfl (lv_at hl 0 rfl) ?_
              have hpt9 := pw_lt8 (k := t) (by omega)
              refine lv_iconst (v := nI 1) hx hb dX3_weighAll_45 (by decide) ?_
              refine lv_iload_n hx hb dX3_weighAll_46 rfl (lv_at hl 2 rfl) ?_
              refine ln_ishl hx hb dX3_weighAll_47 (by omega) (by omega) ?_
              refine ln_icmp_ge (tgt := 75) hx hb dX3_weighAll_48 (by decide) (by omega) (by omega) (fun c48 => ?_) (fun c48 => ?_)
              · exact absurd c48 (by omega)
              · refine lv_aload_n hx hb dX3_weighAll_51 rfl (lv_at hl 3 rfl) ?_
                refine va_get (D := D) (ci := 3) (v := .ref (ad 7)) (C := RX3) (T := TX3) (N := 9) hx hb hts ni3 hown hK hP 3 (cw_c3 cy ad aw σ (ju_pb J pb)) rfl 8 (by decide) (hts _ flX3_46) (fun _ h => h) rfl dX3_weighAll_52 ?_
                refine lv_iconst (v := nI 1) hx hb dX3_weighAll_55 (by decide) ?_
                refine lv_iload_n hx hb dX3_weighAll_56 rfl (lv_at hl 2 rfl) ?_
                refine ln_ishl hx hb dX3_weighAll_57 (by omega) (by omega) ?_
                refine ln_nat (show 1 * 2 ^ t = 2 ^ t from Nat.one_mul _) ?_
                refine lv_iload_n hx hb dX3_weighAll_58 rfl (lv_at hl 0 rfl) ?_
                refine ln_ior hx hb dX3_weighAll_59 ?_
                refine lv_iload_n hx hb dX3_weighAll_60 rfl (lv_at hl 1 rfl) ?_
                refine lv_aload_n hx hb dX3_weighAll_61 rfl (lv_at hl 3 rfl) ?_
                refine va_get (D := D) (ci := 3) (v := .ref (ad 7)) (C := RX3) (T := TX3) (N := 9) hx hb hts ni3 hown hK hP 3 (cw_c3 cy ad aw σ (ju_pb J pb)) rfl 8 (by decide) (hts _ flX3_46) (fun _ h => h) rfl dX3_weighAll_62 ?_
                refine lv_iload_n hx hb dX3_weighAll_65 rfl (lv_at hl 0 rfl) ?_
                refine ln_iald (v := (pb q)) hx hb hK hP 7 (cw_c7 cy ad aw σ (ju_pb J pb)) (by omega) (by decide) rfl dX3_weighAll_66 ?_
                refine lv_iadd hx hb dX3_weighAll_67 ?_
                have hor : 2 ^ t ||| q < 256 := Nat.or_lt_two_pow (n := 8) (by omega) (by omega)
                refine ln_iast hx hb hK hP hD hS 7 (cw_c7 cy ad aw σ (ju_pb J pb)) (by omega) (by decide) ((cp_7 cy ad aw σ (ju_pb J pb) ((2 ^ t) ||| q) ((nI (pd σ (s_of σ) t)) + (pb q))).trans (congrArg (fun z => cw cy ad aw σ z) (by rw [jc_pb]))) dX3_weighAll_68 (fun H locs hP hD hS => ?_)
                refine ln_iinc (lv' := [(3, .int (nI (q + 1))), (2, .int (nI (pd σ (s_of σ) t))), (1, .int (nI (t))), (0, .ref (ad 3))]) hx hb dX3_weighAll_69 hl (k := 0) (n := 1) rfl (by decide) rfl (fun ls hl => ?_)
                refine lv_goto (tgt := 44) hx hb dX3_weighAll_72 (by decide) ?_
                have hl : lv_has ls 4 [(3, .int (nI (q + 1))), (2, .int (nI (pd σ (s_of σ) t))), (1, .int (nI (t))), (0, .ref (ad 3))] := lv_sub hl [0, 1, 2, 3] rfl
                exact ih_lq (q + 1) ls _ _ _ (by omega) (pbOk_s (by omega) (by omega) hok2) hP hD hS hl
          have hl : lv_has ls 4 [(3, .int (nI (0))), (2, .int (nI (pd σ (s_of σ) t))), (1, .int (nI (t))), (0, .ref (ad 3))] := lv_sub hl [0, 1, 2, 3] rfl
          exact lq (2 ^ t - 0) 0 ls _ _ pb (by omega) hok hP hD hS hl
        · refine lv_aload_n hx hb dX3_weighAll_27 rfl (lv_at hl 1 rfl) ?_
          refine va_get (D := D) (ci := 3) (v := .ref (ad 4)) (C := RX3) (T := TX3) (N := 9) hx hb hts ni3 hown hK hP 3 (cw_c3 cy ad aw σ (ju_pb J pb)) rfl 0 (by decide) (hts _ flX3_11) (fun _ h => h) rfl dX3_weighAll_28 ?_
          refine lv_iload_n hx hb dX3_weighAll_31 rfl (lv_at hl 0 rfl) ?_
          refine ln_aald (x := ad (21 + t)) hx hb hK hP 4 5 (cw_c4 cy ad aw σ (ju_pb J pb)) rfl (by omega) (by decide) rfl dX3_weighAll_32 ?_
          refine va_get (D := D) (ci := 8) (v := .int (nI (s_th σ (6 * t + 3)))) (C := RX8) (T := TX8) (N := 6) hx hb hts ni8 hown hK hP (21 + t) (cw_thing cy ad aw σ (ju_pb J pb) (t := t) (by omega)) rfl 3 (by decide) (hts _ flX3_97) (fun _ h => h) rfl dX3_weighAll_33 ?_
          refine lv_goto (tgt := 40) hx hb dX3_weighAll_36 (by decide) ?_
          refine ln_iadd hx hb dX3_weighAll_40 ?_
          refine ln_nat (show (s_th σ (6 * t + 1)) + (s_th σ (6 * t + 3)) = pd σ (s_of σ) t from by first | exact pd_hat hw (by omega) c24 | exact pd_nohat hw (by omega) c24) ?_
          refine lv_istore_n (lv' := [(2, .int (nI (pd σ (s_of σ) t))), (1, .int (nI (t))), (0, .ref (ad 3))]) hx hb dX3_weighAll_41 rfl hl (by decide) rfl (fun ls hl => ?_)
          refine lv_iconst (v := nI 0) hx hb dX3_weighAll_42 (by decide) ?_
          refine lv_istore_n (lv' := [(3, .int (nI (0))), (2, .int (nI (pd σ (s_of σ) t))), (1, .int (nI (t))), (0, .ref (ad 3))]) hx hb dX3_weighAll_43 rfl hl (by decide) rfl (fun ls hl => ?_)
          have lq : ∀ (k_lq q : Nat) (ls : Array Slot) (H : Heap) (locs : List Loc) (pb : Nat → Int32), q + k_lq = 2 ^ t → pbOk σ pb (2 ^ t + q) → va_P D vwCl (cw cy ad aw σ (ju_pb J pb)) H → va_D A (cw cy ad aw σ (ju_pb J pb)) → va_S A s.heap H locs → lv_has ls 4 [(3, .int (nI (q))), (2, .int (nI (pd σ (s_of σ) t))), (1, .int (nI (t))), (0, .ref (ad 3))] → W p l e (headSpec qX3_weighAll (rq 1)).room s m ([.ref (ad 3)] : List Value).toArray below meth c H locs 0 0 (MQ below (va_Qv (fun pb : Nat → Int32 => pbOk σ pb (2 ^ s_n σ)) (fun u t => va_P D vwCl ((fun pb : Nat → Int32 => cw cy ad aw σ (ju_pb J pb)) u) t.heap) A) ([.ref (ad 3)] : List Value).toArray s 0 0 A) (F0 m 44 ls []) := by
            intro k_lq
            induction k_lq with
            | zero =>
              intro q ls H locs pb hi_lq hok2 hP hD hS hl
              have hpt9 := hpt8 (by omega)
              refine lv_iload_n hx hb dX3_weighAll_44 rfl (lv_at hl 0 rfl) ?_
              have hpt9 := pw_lt8 (k := t) (by omega)
              refine lv_iconst (v := nI 1) hx hb dX3_weighAll_45 (by decide) ?_
              refine lv_iload_n hx hb dX3_weighAll_46 rfl (lv_at hl 2 rfl) ?_
              refine ln_ishl hx hb dX3_weighAll_47 (by omega) (by omega) ?_
              refine ln_icmp_ge (tgt := 75) hx hb dX3_weighAll_48 (by decide) (by omega) (by omega) (fun c48 => ?_) (fun c48 => ?_)
              · refine ln_iinc (lv' := [(1, .int (nI (t + 1))), (3, .int (nI (q))), (2, .int (nI (pd σ (s_of σ) t))), (0, .ref (ad 3))]) hx hb dX3_weighAll_75 hl (k := 2) (n := 1) rfl (by decide) rfl (fun ls hl => ?_)
                refine lv_goto (tgt := 2) hx hb dX3_weighAll_78 (by decide) ?_
                have hl : lv_has ls 4 [(1, .int (nI (t + 1))), (0, .ref (ad 3))] := lv_sub hl [0, 3] rfl
                exact ih_lp (t + 1) ls _ _ pb (by omega) (by have hpt := pw_pos t; rw [Nat.pow_succ, Nat.mul_two]; rw [show q = 2 ^ t by omega] at hok2; exact hok2) hP hD hS hl
              · exact absurd c48 (by omega)
            | succ k_lq ih_lq =>
              intro q ls H locs pb hi_lq hok2 hP hD hS hl
              have hpt9 := hpt8 (by omega)
              refine lv_iload_n hx hb dX3_weighAll_44 rfl (lv_at hl 0 rfl) ?_
              have hpt9 := pw_lt8 (k := t) (by omega)
              refine lv_iconst (v := nI 1) hx hb dX3_weighAll_45 (by decide) ?_
              refine lv_iload_n hx hb dX3_weighAll_46 rfl (lv_at hl 2 rfl) ?_
              refine ln_ishl hx hb dX3_weighAll_47 (by omega) (by omega) ?_
              refine ln_icmp_ge (tgt := 75) hx hb dX3_weighAll_48 (by decide) (by omega) (by omega) (fun c48 => ?_) (fun c48 => ?_)
              · exact absurd c48 (by omega)
              · refine lv_aload_n hx hb dX3_weighAll_51 rfl (lv_at hl 3 rfl) ?_
                refine va_get (D := D) (ci := 3) (v := .ref (ad 7)) (C := RX3) (T := TX3) (N := 9) hx hb hts ni3 hown hK hP 3 (cw_c3 cy ad aw σ (ju_pb J pb)) rfl 8 (by decide) (hts _ flX3_46) (fun _ h => h) rfl dX3_weighAll_52 ?_
                refine lv_iconst (v := nI 1) hx hb dX3_weighAll_55 (by decide) ?_
                refine lv_iload_n hx hb dX3_weighAll_56 rfl (lv_at hl 2 rfl) ?_
                refine ln_ishl hx hb dX3_weighAll_57 (by omega) (by omega) ?_
                refine ln_nat (show 1 * 2 ^ t = 2 ^ t from Nat.one_mul _) ?_
                refine lv_iload_n hx hb dX3_weighAll_58 rfl (lv_at hl 0 rfl) ?_
                refine ln_ior hx hb dX3_weighAll_59 ?_
                refine lv_iload_n hx hb dX3_weighAll_60 rfl (lv_at hl 1 rfl) ?_
                refine lv_aload_n hx hb dX3_weighAll_61 rfl (lv_at hl 3 rfl) ?_
                refine va_get (D := D) (ci := 3) (v := .ref (ad 7)) (C := RX3) (T := TX3) (N := 9) hx hb hts ni3 hown hK hP 3 (cw_c3 cy ad aw σ (ju_pb J pb)) rfl 8 (by decide) (hts _ flX3_46) (fun _ h => h) rfl dX3_weighAll_62 ?_
                refine lv_iload_n hx hb dX3_weighAll_65 rfl (lv_at hl 0 rfl) ?_
                refine ln_iald (v := (pb q)) hx hb hK hP 7 (cw_c7 cy ad aw σ (ju_pb J pb)) (by omega) (by decide) rfl dX3_weighAll_66 ?_
                refine lv_iadd hx hb dX3_weighAll_67 ?_
                have hor : 2 ^ t ||| q < 256 := Nat.or_lt_two_pow (n := 8) (by omega) (by omega)
                refine ln_iast hx hb hK hP hD hS 7 (cw_c7 cy ad aw σ (ju_pb J pb)) (by omega) (by decide) ((cp_7 cy ad aw σ (ju_pb J pb) ((2 ^ t) ||| q) ((nI (pd σ (s_of σ) t)) + (pb q))).trans (congrArg (fun z => cw cy ad aw σ z) (by rw [jc_pb]))) dX3_weighAll_68 (fun H locs hP hD hS => ?_)
                refine ln_iinc (lv' := [(3, .int (nI (q + 1))), (2, .int (nI (pd σ (s_of σ) t))), (1, .int (nI (t))), (0, .ref (ad 3))]) hx hb dX3_weighAll_69 hl (k := 0) (n := 1) rfl (by decide) rfl (fun ls hl => ?_)
                refine lv_goto (tgt := 44) hx hb dX3_weighAll_72 (by decide) ?_
                have hl : lv_has ls 4 [(3, .int (nI (q + 1))), (2, .int (nI (pd σ (s_of σ) t))), (1, .int (nI (t))), (0, .ref (ad 3))] := lv_sub hl [0, 1, 2, 3] rfl
                exact ih_lq (q + 1) ls _ _ _ (by omega) (pbOk_s (by omega) (by omega) hok2) hP hD hS hl
          have hl : lv_has ls 4 [(3, .int (nI (0))), (2, .int (nI (pd σ (s_of σ) t))), (1, .int (nI (t))), (0, .ref (ad 3))] := lv_sub hl [0, 1, 2, 3] rfl
          exact lq (2 ^ t - 0) 0 ls _ _ pb (by omega) hok hP hD hS hl
  have hl : lv_has ls 4 [(1, .int (nI (0))), (0, .ref (ad 3))] := lv_sub hl [0, 1] rfl
  exact lp (s_n σ - 0) 0 ls _ _ (j_pb J) (by omega) (by intro x hx; rw [show x = 0 from (by have h01 : (2 : Nat) ^ 0 = 1 := rfl; omega), pdA_0]; exact hpb) hP hD hS hl
