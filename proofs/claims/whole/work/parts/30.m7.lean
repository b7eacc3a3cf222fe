section LO
variable {p : Program} {l : Launch} {e : Env} {R : Room} {s : State} {m : MethodId} {args : Array Value} {below : List Frame} {meth : Method} {c : Code} {H : Heap} {locs : List Loc} {cells slots : Nat} {Q : State → Prop} {cc : ByteArray} {pc : Nat} {ls : Array Slot} {rest : List Value}
theorem oI_ne {o : Option Nat} (hb : ∀ k, o = some k → k < 2 ^ 31) : oI o = -1 ↔ o = none := by
  cases o with
  | none => exact ⟨fun _ => rfl, fun _ => rfl⟩
  | some k => exact ⟨fun q => absurd q (m1_ne k (hb k rfl)), fun q => by cases q⟩
theorem lo_icmp_ne (hx : p.tables.exec = Jvm.exec) (hb : c.code = cc) {o : Option Nat} {off : Int} {tgt : Nat} (hd : decode cc pc = .ok (.if_icmp .ne off, 3)) (ht : (pc : Int) + off = (tgt : Int)) (ho : ∀ k, o = some k → k < 2 ^ 31) (kt : ¬ o = none → W p l e R s m args below meth c H locs cells slots Q (F0 m tgt ls rest)) (kf : o = none → W p l e R s m args below meth c H locs cells slots Q (F0 m (pc + 3) ls rest)) : W p l e R s m args below meth c H locs cells slots Q (F0 m pc ls (.int (-1) :: .int (oI o) :: rest)) := lv_icmp_ne hx hb hd ht (fun h => kt (fun q => h ((oI_ne ho).mpr q))) (fun h => kf ((oI_ne ho).mp h))
theorem lo_icmp_eq (hx : p.tables.exec = Jvm.exec) (hb : c.code = cc) {o : Option Nat} {off : Int} {tgt : Nat} (hd : decode cc pc = .ok (.if_icmp .eq off, 3)) (ht : (pc : Int) + off = (tgt : Int)) (ho : ∀ k, o = some k → k < 2 ^ 31) (kt : o = none → W p l e R s m args below meth c H locs cells slots Q (F0 m tgt ls rest)) (kf : ¬ o = none → W p l e R s m args below meth c H locs cells slots Q (F0 m (pc + 3) ls rest)) : W p l e R s m args below meth c H locs cells slots Q (F0 m pc ls (.int (-1) :: .int (oI o) :: rest)) := lv_icmp_eq hx hb hd ht (fun h => kt ((oI_ne ho).mp h)) (fun h => kf (fun q => h ((oI_ne ho).mpr q)))
end LO
theorem oI_m1 {p : Nat → Bool} {i : Nat} (hi : i < 2 ^ 31) : oI (fst p i) = -1 ↔ fst p i = none := by
  cases h : fst p i with
  | none => exact ⟨fun _ => rfl, fun _ => rfl⟩
  | some k => exact ⟨fun q => absurd q (m1_ne k (by have := fst_lt h; omega)), fun q => by cases q⟩
theorem fst_mono {p : Nat → Bool} {i k : Nat} (h : fst p i = some k) : ∀ {n : Nat}, i ≤ n → fst p n = some k
  | 0, q => by rw [show i = 0 by omega] at h; exact h
  | n + 1, q => by
    rcases (show i = n + 1 ∨ i ≤ n by omega) with rfl | r
    · exact h
    · rw [fst, fst_mono h r]
set_option maxHeartbeats 4000000 in
set_option maxRecDepth 100000 in
theorem k_X11_judge (l : Launch) (D : va_G) (cy : Nat → ClassId) (ad : Nat → Nat) (σ : Sg) (T : Ms)  (hw : wfS σ) : MW l yX11_judge qX11_judge 4 [.ref (ad 0)] D cy (mw cy ad σ T) (fun (r : Int32) (_ : Ms) => r = a_judge σ) (fun u : Ms => mw cy ad (σ) u) := by
  intro sz
  refine Met.ofW (cc := cX11_judge) (maxL := 4) (ret := (some .int)) (by decide) rfl ?_
  intro p e s m args below meth c s₁ B hml hv
  obtain ⟨rfl, rfl, hP, hK, hN, hD0⟩ := hv
  have hx := B.exec
  have hb := B.bytes
  have hr := B.returns
  have hlocks := B.notSynchronized
  have hts : ∀ cq ∈ tg, cq.before ([.ref (ad 0)] : List Value).toArray s = true := fun cq h => atoms_spec (ws := qX11_judge) B.pre cq (List.mem_cons_of_mem _ h)
  have hown : s.vm.findClass RX11 = some m.cls := findClass_of_methodNamed B.named
  have hD := hD0.self (sz := s.heap.size)
  generalize hAe : va_A (mw cy ad σ T) s.heap.size = A at hD ⊢
  have hA : ∀ q : Nat, s.heap.size ≤ q → A q := fun q h => by rw [← hAe]; exact Or.inr h
  have hS : va_S A s.heap s.heap [] := va_S.rf
  have hl := lv_entry ([.ref (ad 0)]) (n := 4) (Nat.le_of_ble_eq_true rfl)
  rw [lg_entry_eq]
  generalize (lg_sl ([.ref (ad 0)]) ++ List.replicate (4 - (lg_sl ([.ref (ad 0)])).length) Slot.unset).toArray = ls at hl ⊢
  have hl : lv_has ls 4 [(0, .ref (ad 0))] := hl
  have hw1 := hw.1
  have hw2 := hw.2.1
  have hp8 := pw_8 hw1
  have hpp := pw_pos (s_n σ)
  have hov := ov_lt hw
  have hmo := mo_lt hw
  have hof := of_lt hw
  have hrn := hw.2.2.2.2.2.2.2.2.2.1
  refine lv_aload_n hx hb dX11_judge_0 rfl (lv_at hl 0 rfl) ?_
  refine va_get (D := D) (ci := 10) (v := .int (nI (s_ov σ))) (C := RX11) (T := TX11) (N := 31) hx hb hts ni11 hown hK hP 0 (mw_c0 cy ad σ T) rfl 17 (by decide) (hts _ flX11_155) (fun _ h => h) rfl dX11_judge_1 ?_
  refine lv_istore_n (lv' := [(1, .int (nI (s_ov σ))), (0, .ref (ad 0))]) hx hb dX11_judge_4 rfl hl (by decide) rfl (fun ls hl => ?_)
  refine lv_aload_n hx hb dX11_judge_5 rfl (lv_at hl 1 rfl) ?_
  refine va_get (D := D) (ci := 10) (v := .int (nI (s_mo σ))) (C := RX11) (T := TX11) (N := 31) hx hb hts ni11 hown hK hP 0 (mw_c0 cy ad σ T) rfl 18 (by decide) (hts _ flX11_158) (fun _ h => h) rfl dX11_judge_6 ?_
  refine lv_istore_n (lv' := [(2, .int (nI (s_mo σ))), (1, .int (nI (s_ov σ))), (0, .ref (ad 0))]) hx hb dX11_judge_9 rfl hl (by decide) rfl (fun ls hl => ?_)
  refine lv_aload_n hx hb dX11_judge_10 rfl (lv_at hl 2 rfl) ?_
  refine lv_iconst (v := -1) hx hb dX11_judge_11 (by decide) ?_
  refine ln_put (ci := 10) (C := RX11) (T := TX11) (N := 31) (ty := .int) (v := .int (-1)) hx hb hts ni11 tyX11 tyX11_ok nmX11 hown hK hP hD hS 0 (mw_c0 cy ad σ T) rfl 30 (by decide) (hts _ flX11_224) (fun _ h => h) rfl (by decide +kernel) rfl rfl (Nat.le_of_ble_eq_true rfl) (mp_0_30 cy ad σ T (-1)) dX11_judge_12 (fun H locs hP hD hS => ?_)
  refine lv_iconst (v := nI 0) hx hb dX11_judge_15 (by decide) ?_
  refine lv_istore_n (lv' := [(3, .int (nI (0))), (2, .int (nI (s_mo σ))), (1, .int (nI (s_ov σ))), (0, .ref (ad 0))]) hx hb dX11_judge_16 rfl hl (by decide) rfl (fun ls hl => ?_)
  have lp : ∀ (k_lp i : Nat) (ls : Array Slot) (H : Heap) (locs : List Loc) , i + k_lp = s_rn σ → va_P D vwCl (mw cy ad σ (mu_fo T (oI (fst (juP σ) i)))) H → va_D A (mw cy ad σ (mu_fo T (oI (fst (juP σ) i)))) → va_S A s.heap H locs → lv_has ls 4 [(3, .int (nI (i))), (1, .int (nI (jT σ i))), (2, .int (nI (jB σ i))), (0, .ref (ad 0))] → W p l e (headSpec qX11_judge (rq 4)).room s m ([.ref (ad 0)] : List Value).toArray below meth c H locs 0 0 (MQ below (va_Qi (fun (r : Int32) (_ : Ms) => r = a_judge σ) (fun u t => va_P D vwCl ((fun u : Ms => mw cy ad (σ) u) u) t.heap) A) ([.ref (ad 0)] : List Value).toArray s 0 0 A) (F0 m 17 ls []) := by
    intro k_lp
    induction k_lp with
    | zero =>
      intro i ls H locs hi_lp hP hD hS hl
      have hjt := jT_lt hw (k := i) (by omega)
      have hjb := jB_lt hw (k := i) (by omega)
      refine lv_iload_n hx hb dX11_judge_17 rfl (lv_at hl 0 rfl) ?_
      refine lv_aload_n hx hb dX11_judge_18 rfl (lv_at hl 3 rfl) ?_
      refine va_get (D := D) (ci := 10) (v := .int (nI (s_rn σ))) (C := RX11) (T := TX11) (N := 31) hx hb hts ni11 hown hK hP 0 (mw_c0 cy ad σ (mu_fo T (oI (fst (juP σ) i)))) rfl 24 (by decide) (hts _ flX11_170) (fun _ h => h) rfl dX11_judge_19 ?_
      refine ln_icmp_ge (tgt := 105) hx hb dX11_judge_22 (by decide) (by omega) (by omega) (fun c22 => ?_) (fun c22 => ?_)
      · refine lv_aload_n hx hb dX11_judge_105 rfl (lv_at hl 3 rfl) ?_
        refine va_get (D := D) (ci := 10) (v := .int (oI (fst (juP σ) i))) (C := RX11) (T := TX11) (N := 31) hx hb hts ni11 hown hK hP 0 (mw_c0 cy ad σ (mu_fo T (oI (fst (juP σ) i)))) rfl 30 (by decide) (hts _ flX11_224) (fun _ h => h) rfl dX11_judge_106 ?_
        exact rw_i hx hb hr hlocks hS (mu_fo T (oI (fst (juP σ) i))) (by first | (rw [a_judge, show s_rn σ = i by omega]; done) | (rw [a_judge]; cases hq : fst (juP σ) i with | none => exact absurd hq c30 | some k => rw [fst_mono hq (by omega)])) hP dX11_judge_109
      · exact absurd c22 (by omega)
    | succ k_lp ih_lp =>
      intro i ls H locs hi_lp hP hD hS hl
      have hjt := jT_lt hw (k := i) (by omega)
      have hjb := jB_lt hw (k := i) (by omega)
      refine lv_iload_n hx hb dX11_judge_17 rfl (lv_at hl 0 rfl) ?_
      refine lv_aload_n hx hb dX11_judge_18 rfl (lv_at hl 3 rfl) ?_
      refine va_get (D := D) (ci := 10) (v := .int (nI (s_rn σ))) (C := RX11) (T := TX11) (N := 31) hx hb hts ni11 hown hK hP 0 (mw_c0 cy ad σ (mu_fo T (oI (fst (juP σ) i)))) rfl 24 (by decide) (hts _ flX11_170) (fun _ h => h) rfl dX11_judge_19 ?_
      refine ln_icmp_ge (tgt := 105) hx hb dX11_judge_22 (by decide) (by omega) (by omega) (fun c22 => ?_) (fun c22 => ?_)
      · exact absurd c22 (by omega)
      · refine lv_aload_n hx hb dX11_judge_25 rfl (lv_at hl 3 rfl) ?_
        refine va_get (D := D) (ci := 10) (v := .int (oI (fst (juP σ) i))) (C := RX11) (T := TX11) (N := 31) hx hb hts ni11 hown hK hP 0 (mw_c0 cy ad σ (mu_fo T (oI (fst (juP σ) i)))) rfl 30 (by decide) (hts _ flX11_224) (fun _ h => h) rfl dX11_judge_26 ?_
        refine lv_iconst (v := -1) hx hb dX11_judge_29 (by decide) ?_
        refine lo_icmp_ne (tgt := 105) hx hb dX11_judge_30 (by decide) (fun k hk => by have := fst_lt hk; omega) (fun c30 => ?_) (fun c30 => ?_)
        · refine lv_aload_n hx hb dX11_judge_105 rfl (lv_at hl 3 rfl) ?_
          refine va_get (D := D) (ci := 10) (v := .int (oI (fst (juP σ) i))) (C := RX11) (T := TX11) (N := 31) hx hb hts ni11 hown hK hP 0 (mw_c0 cy ad σ (mu_fo T (oI (fst (juP σ) i)))) rfl 30 (by decide) (hts _ flX11_224) (fun _ h => h) rfl dX11_judge_106 ?_
          exact rw_i hx hb hr hlocks hS (mu_fo T (oI (fst (juP σ) i))) (by first | (rw [a_judge, show s_rn σ = i by omega]; done) | (rw [a_judge]; cases hq : fst (juP σ) i with | none => exact absurd hq c30 | some k => rw [fst_mono hq (by omega)])) hP dX11_judge_109
        · have hno := c30
          have hro := hw.2.2.2.2.2.2.2.2.2.2.2.1 i (by omega)
          have hpr := pw_lt8 (k := s_ro σ (2 * i)) (by omega)
          refine lv_aload_n hx hb dX11_judge_33 rfl (lv_at hl 3 rfl) ?_
          refine lv_aload_n hx hb dX11_judge_34 rfl (lv_at hl 3 rfl) ?_
          refine lv_aload_n hx hb dX11_judge_35 rfl (lv_at hl 3 rfl) ?_
          refine va_get (D := D) (ci := 10) (v := .ref (ad 8)) (C := RX11) (T := TX11) (N := 31) hx hb hts ni11 hown hK hP 0 (mw_c0 cy ad σ (mu_fo T (oI (fst (juP σ) i)))) rfl 25 (by decide) (hts _ flX11_32) (fun _ h => h) rfl dX11_judge_36 ?_
          refine lv_iconst (v := nI 2) hx hb dX11_judge_39 (by decide) ?_
          refine lv_iload_n hx hb dX11_judge_40 rfl (lv_at hl 0 rfl) ?_
          refine ln_imul hx hb dX11_judge_41 ?_
          refine ln_iald (v := (nI (s_ro σ (2 * i)))) hx hb hK hP 8 (mw_c8 cy ad σ (mu_fo T (oI (fst (juP σ) i)))) (by omega) (by decide) rfl dX11_judge_42 ?_
          refine lv_aload_n hx hb dX11_judge_43 rfl (lv_at hl 3 rfl) ?_
          refine va_get (D := D) (ci := 10) (v := .ref (ad 8)) (C := RX11) (T := TX11) (N := 31) hx hb hts ni11 hown hK hP 0 (mw_c0 cy ad σ (mu_fo T (oI (fst (juP σ) i)))) rfl 25 (by decide) (hts _ flX11_32) (fun _ h => h) rfl dX11_judge_44 ?_
          refine lv_iconst (v := nI 2) hx hb dX11_judge_47 (by decide) ?_
          refine lv_iload_n hx hb dX11_judge_48 rfl (lv_at hl 0 rfl) ?_
          refine ln_imul hx hb dX11_judge_49 ?_
          refine lv_iconst (v := nI 1) hx hb dX11_judge_50 (by decide) ?_
          refine ln_iadd hx hb dX11_judge_51 ?_
          refine ln_iald (v := (nI (s_ro σ ((2 * i) + 1)))) hx hb hK hP 8 (mw_c8 cy ad σ (mu_fo T (oI (fst (juP σ) i)))) (by omega) (by decide) rfl dX11_judge_52 ?_
          refine lv_iload_n hx hb dX11_judge_53 rfl (lv_at hl 1 rfl) ?_
          refine lv_iload_n hx hb dX11_judge_54 rfl (lv_at hl 2 rfl) ?_
          refine lv_aload_n hx hb dX11_judge_55 rfl (lv_at hl 3 rfl) ?_
          refine va_get (D := D) (ci := 10) (v := .int (nI (s_of σ))) (C := RX11) (T := TX11) (N := 31) hx hb hts ni11 hown hK hP 0 (mw_c0 cy ad σ (mu_fo T (oI (fst (juP σ) i)))) rfl 19 (by decide) (hts _ flX11_161) (fun _ h => h) rfl dX11_judge_56 ?_
          refine cr_v (n := 5) (As := [.int (nI (s_ro σ (2 * i))), .int (nI (s_ro σ ((2 * i) + 1))), .int (nI (jT σ i)), .int (nI (jB σ i)), .int (nI (s_of σ))]) (rest := [.ref (ad 0)]) ⟨hx, hb, hml, hown, hts⟩ (k_X11_isRight l D cy ad σ (mu_fo T (oI (fst (juP σ) i))) (s_ro σ (2 * i)) (s_ro σ ((2 * i) + 1)) (jT σ i) (jB σ i) (s_of σ) hw (by omega) (by omega) (by omega) (by omega) (by omega)) gvX11_207 (by decide +kernel) ⟨Nat.le_of_ble_eq_true rfl, Nat.le_of_ble_eq_true rfl⟩ hK hN hP 0 (mw_c0 cy ad σ (mu_fo T (oI (fst (juP σ) i)))) rfl rfl hl.1 rfl (Nat.le_of_ble_eq_true rfl) dX11_judge_59 ⟨Nat.zero_le _, Nat.zero_le _⟩ ?_
          refine lb_if_eq (tgt := 69) hx hb dX11_judge_62 (by decide) (fun c62 => ?_) (fun c62 => ?_)
          · refine lv_iload_n hx hb dX11_judge_69 rfl (lv_at hl 0 rfl) ?_
            refine ln_put (ci := 10) (C := RX11) (T := TX11) (N := 31) (ty := .int) (v := .int (nI (i))) hx hb hts ni11 tyX11 tyX11_ok nmX11 hown hK hP hD hS 0 (mw_c0 cy ad σ (mu_fo T (oI (fst (juP σ) i)))) rfl 30 (by decide) (hts _ flX11_224) (fun _ h => h) rfl (by decide +kernel) rfl rfl (Nat.le_of_ble_eq_true rfl) ((mp_0_30 cy ad σ (mu_fo T (oI (fst (juP σ) i))) (nI (i))).trans (congrArg (fun z => mw cy ad σ z) (by rw [mc_fo]))) dX11_judge_70 (fun H locs hP hD hS => ?_)
            refine lv_iload_n hx hb dX11_judge_73 rfl (lv_at hl 1 rfl) ?_
            refine lv_aload_n hx hb dX11_judge_74 rfl (lv_at hl 3 rfl) ?_
            refine va_get (D := D) (ci := 10) (v := .ref (ad 8)) (C := RX11) (T := TX11) (N := 31) hx hb hts ni11 hown hK hP 0 (mw_c0 cy ad σ (mu_fo T (nI (i)))) rfl 25 (by decide) (hts _ flX11_32) (fun _ h => h) rfl dX11_judge_75 ?_
            refine lv_iconst (v := nI 2) hx hb dX11_judge_78 (by decide) ?_
            refine lv_iload_n hx hb dX11_judge_79 rfl (lv_at hl 0 rfl) ?_
            refine ln_imul hx hb dX11_judge_80 ?_
            refine lv_iconst (v := nI 1) hx hb dX11_judge_81 (by decide) ?_
            refine ln_iadd hx hb dX11_judge_82 ?_
            refine ln_iald (v := (nI (s_ro σ ((2 * i) + 1)))) hx hb hK hP 8 (mw_c8 cy ad σ (mu_fo T (nI (i)))) (by omega) (by decide) rfl dX11_judge_83 ?_
            refine ln_ixor hx hb dX11_judge_84 ?_
            refine lv_istore_n (lv' := [(1, .int (nI ((jT σ i) ^^^ (s_ro σ ((2 * i) + 1))))), (3, .int (nI (i))), (2, .int (nI (jB σ i))), (0, .ref (ad 0))]) hx hb dX11_judge_85 rfl hl (by decide) rfl (fun ls hl => ?_)
            refine lv_iload_n hx hb dX11_judge_86 rfl (lv_at hl 2 rfl) ?_
            refine lv_iconst (v := nI 1) hx hb dX11_judge_87 (by decide) ?_
            refine lv_aload_n hx hb dX11_judge_88 rfl (lv_at hl 3 rfl) ?_
            refine va_get (D := D) (ci := 10) (v := .ref (ad 8)) (C := RX11) (T := TX11) (N := 31) hx hb hts ni11 hown hK hP 0 (mw_c0 cy ad σ (mu_fo T (nI (i)))) rfl 25 (by decide) (hts _ flX11_32) (fun _ h => h) rfl dX11_judge_89 ?_
            refine lv_iconst (v := nI 2) hx hb dX11_judge_92 (by decide) ?_
            refine lv_iload_n hx hb dX11_judge_93 rfl (lv_at hl 1 rfl) ?_
            refine ln_imul hx hb dX11_judge_94 ?_
            refine ln_iald (v := (nI (s_ro σ (2 * i)))) hx hb hK hP 8 (mw_c8 cy ad σ (mu_fo T (nI (i)))) (by omega) (by decide) rfl dX11_judge_95 ?_
            refine ln_ishl hx hb dX11_judge_96 (by omega) (by omega) ?_
            refine ln_nat (show 1 * 2 ^ (s_ro σ (2 * i)) = 2 ^ (s_ro σ (2 * i)) from Nat.one_mul _) ?_
            refine ln_ixor hx hb dX11_judge_97 ?_
            refine lv_istore_n (lv' := [(2, .int (nI ((jB σ i) ^^^ (2 ^ (s_ro σ (2 * i)))))), (1, .int (nI ((jT σ i) ^^^ (s_ro σ ((2 * i) + 1))))), (3, .int (nI (i))), (0, .ref (ad 0))]) hx hb dX11_judge_98 rfl hl (by decide) rfl (fun ls hl => ?_)
            refine ln_iinc (lv' := [(3, .int (nI (i + 1))), (2, .int (nI ((jB σ i) ^^^ (2 ^ (s_ro σ (2 * i)))))), (1, .int (nI ((jT σ i) ^^^ (s_ro σ ((2 * i) + 1))))), (0, .ref (ad 0))]) hx hb dX11_judge_99 hl (k := 2) (n := 1) rfl (by decide) rfl (fun ls hl => ?_)
            refine lv_goto (tgt := 17) hx hb dX11_judge_102 (by decide) ?_
            have hl : lv_has ls 4 [(3, .int (nI (i + 1))), (1, .int (nI (jT σ (i + 1)))), (2, .int (nI (jB σ (i + 1)))), (0, .ref (ad 0))] := lv_sub hl [0, 2, 1, 3] rfl
            have hfo : (nI (i)) = oI (fst (juP σ) (i + 1)) := fst_n1 hno (by rw [juP, c62]; rfl)
            have hP : va_P D vwCl (mw cy ad σ (mu_fo T (oI (fst (juP σ) (i + 1))))) H := by rw [← hfo]; exact hP
            have hD : va_D A (mw cy ad σ (mu_fo T (oI (fst (juP σ) (i + 1))))) := by rw [← hfo]; exact hD
            exact ih_lp (i + 1) ls _ _ (by omega) hP hD hS hl
          · refine lv_iconst (v := -1) hx hb dX11_judge_65 (by decide) ?_
            refine lv_goto (tgt := 70) hx hb dX11_judge_66 (by decide) ?_
            refine ln_put (ci := 10) (C := RX11) (T := TX11) (N := 31) (ty := .int) (v := .int (-1)) hx hb hts ni11 tyX11 tyX11_ok nmX11 hown hK hP hD hS 0 (mw_c0 cy ad σ (mu_fo T (oI (fst (juP σ) i)))) rfl 30 (by decide) (hts _ flX11_224) (fun _ h => h) rfl (by decide +kernel) rfl rfl (Nat.le_of_ble_eq_true rfl) ((mp_0_30 cy ad σ (mu_fo T (oI (fst (juP σ) i))) (-1)).trans (congrArg (fun z => mw cy ad σ z) (by rw [mc_fo]))) dX11_judge_70 (fun H locs hP hD hS => ?_)
            refine lv_iload_n hx hb dX11_judge_73 rfl (lv_at hl 1 rfl) ?_
            refine lv_aload_n hx hb dX11_judge_74 rfl (lv_at hl 3 rfl) ?_
            refine va_get (D := D) (ci := 10) (v := .ref (ad 8)) (C := RX11) (T := TX11) (N := 31) hx hb hts ni11 hown hK hP 0 (mw_c0 cy ad σ (mu_fo T (-1))) rfl 25 (by decide) (hts _ flX11_32) (fun _ h => h) rfl dX11_judge_75 ?_
            refine lv_iconst (v := nI 2) hx hb dX11_judge_78 (by decide) ?_
            refine lv_iload_n hx hb dX11_judge_79 rfl (lv_at hl 0 rfl) ?_
            refine ln_imul hx hb dX11_judge_80 ?_
            refine lv_iconst (v := nI 1) hx hb dX11_judge_81 (by decide) ?_
            refine ln_iadd hx hb dX11_judge_82 ?_
            refine ln_iald (v := (nI (s_ro σ ((2 * i) + 1)))) hx hb hK hP 8 (mw_c8 cy ad σ (mu_fo T (-1))) (by omega) (by decide) rfl dX11_judge_83 ?_
            refine ln_ixor hx hb dX11_judge_84 ?_
            refine lv_istore_n (lv' := [(1, .int (nI ((jT σ i) ^^^ (s_ro σ ((2 * i) + 1))))), (3, .int (nI (i))), (2, .int (nI (jB σ i))), (0, .ref (ad 0))]) hx hb dX11_judge_85 rfl hl (by decide) rfl (fun ls hl => ?_)
            refine lv_iload_n hx hb dX11_judge_86 rfl (lv_at hl 2 rfl) ?_
            refine lv_iconst (v := nI 1) hx hb dX11_judge_87 (by decide) ?_
            refine lv_aload_n hx hb dX11_judge_88 rfl (lv_at hl 3 rfl) ?_
            refine va_get (D := D) (ci := 10) (v := .ref (ad 8)) (C := RX11) (T := TX11) (N := 31) hx hb hts ni11 hown hK hP 0 (mw_c0 cy ad σ (mu_fo T (-1))) rfl 25 (by decide) (hts _ flX11_32) (fun _ h => h) rfl dX11_judge_89 ?_
            refine lv_iconst (v := nI 2) hx hb dX11_judge_92 (by decide) ?_
            refine lv_iload_n hx hb dX11_judge_93 rfl (lv_at hl 1 rfl) ?_
            refine ln_imul hx hb dX11_judge_94 ?_
            refine ln_iald (v := (nI (s_ro σ (2 * i)))) hx hb hK hP 8 (mw_c8 cy ad σ (mu_fo T (-1))) (by omega) (by decide) rfl dX11_judge_95 ?_
            refine ln_ishl hx hb dX11_judge_96 (by omega) (by omega) ?_
            refine ln_nat (show 1 * 2 ^ (s_ro σ (2 * i)) = 2 ^ (s_ro σ (2 * i)) from Nat.one_mul _) ?_
            refine ln_ixor hx hb dX11_judge_97 ?_
            refine lv_istore_n (lv' := [(2, .int (nI ((jB σ i) ^^^ (2 ^ (s_ro σ (2 * i)))))), (1, .int (nI ((jT σ i) ^^^ (s_ro σ ((2 * i) + 1))))), (3, .int (nI (i))), (0, .ref (ad 0))]) hx hb dX11_judge_98 rfl hl (by decide) rfl (fun ls hl => ?_)
            refine ln_iinc (lv' := [(3, .int (nI (i + 1))), (2, .int (nI ((jB σ i) ^^^ (2 ^ (s_ro σ (2 * i)))))), (1, .int (nI ((jT σ i) ^^^ (s_ro σ ((2 * i) + 1))))), (0, .ref (ad 0))]) hx hb dX11_judge_99 hl (k := 2) (n := 1) rfl (by decide) rfl (fun ls hl => ?_)
            refine lv_goto (tgt := 17) hx hb dX11_judge_102 (by decide) ?_
            have hl : lv_has ls 4 [(3, .int (nI (i + 1))), (1, .int (nI (jT σ (i + 1)))), (2, .int (nI (jB σ (i + 1)))), (0, .ref (ad 0))] := lv_sub hl [0, 2, 1, 3] rfl
            have hfo : (-1 : Int32) = oI (fst (juP σ) (i + 1)) := fst_n0 hno (by rw [juP, c62]; rfl)
            have hP : va_P D vwCl (mw cy ad σ (mu_fo T (oI (fst (juP σ) (i + 1))))) H := by rw [← hfo]; exact hP
            have hD : va_D A (mw cy ad σ (mu_fo T (oI (fst (juP σ) (i + 1))))) := by rw [← hfo]; exact hD
            exact ih_lp (i + 1) ls _ _ (by omega) hP hD hS hl
  have hl : lv_has ls 4 [(3, .int (nI (0))), (1, .int (nI (jT σ 0))), (2, .int (nI (jB σ 0))), (0, .ref (ad 0))] := lv_sub hl [0, 2, 1, 3] rfl
  exact lp (s_rn σ - 0) 0 ls _ _ (by omega) hP hD hS hl
