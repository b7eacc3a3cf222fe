def spR (tx : Nat → Nat) (b i : Nat) : Nat → Nat → Bool
  | 0, _ => true
  | k + 1, j => if bn_ i j = tx (b + j) then spR tx b i k (j + 1) else false
def spB (σ : Sg) (o i : Nat) : Bool := if tE σ o - tB σ o = ln_ i then spR (s_tx σ) (tB σ o) i (ln_ i) 0 else false
def fwF (σ : Sg) (o : Nat) : Nat → Nat → Option Nat
  | 0, _ => none
  | k + 1, i => if spB σ o (wsp i) = true then some i else fwF σ o k (i + 1)
def fwO (σ : Sg) (o : Nat) : Option Nat := fwF σ o 11 0
theorem wsp_lt {i : Nat} (h : i < 11) : wsp i < 18 := by
  have hh : ∀ i, i < 11 → wsp i < 18 := by decide
  exact hh i h
theorem wsl_lt {i : Nat} (h : i < 11) : wsl i < 18 := by
  have hh : ∀ i, i < 11 → wsl i < 18 := by decide
  exact hh i h
/-- what the reader foresees: things, those with hats, ferries -/
def RTc (τ : Sg) (J : Js) : Prop := j_rt J = nI (s_n τ) ∧ j_rh J = nI (whN τ) ∧ j_rf J = nI (s_m τ)
def fsJ (τ : Sg) (J : Js) : Js := ju_rf (ju_rh (ju_rt J (nI (s_n τ))) (nI (whN τ))) (nI (s_m τ))
theorem j_etaR (J : Js) : ju_rf (ju_rh (ju_rt J (j_rt J)) (j_rh J)) (j_rf J) = J := rfl
theorem RTc.eta {τ : Sg} {J : Js} (h : RTc τ J) : J = ju_rf (ju_rh (ju_rt J (nI (s_n τ))) (nI (whN τ))) (nI (s_m τ)) := by
  rw [← h.1, ← h.2.1, ← h.2.2]; exact (j_etaR J).symm
theorem RTc.fs (τ : Sg) (J : Js) : RTc τ (fsJ τ J) := ⟨rfl, rfl, rfl⟩
theorem fs_eq {τ : Sg} {J : Js} {X Y Z : Nat} (h1 : s_n τ = X) (h2 : whN τ = Y) (h3 : s_m τ = Z) : fsJ τ J = ju_rf (ju_rh (ju_rt J (nI X)) (nI Y)) (nI Z) := by
  rw [← h1, ← h2, ← h3]; rfl
theorem mask_congr {f g : Nat → Bool} : ∀ {n : Nat}, (∀ t, t < n → f t = g t) → maskN f n = maskN g n
  | 0, _ => rfl
  | n + 1, h => by rw [maskN, maskN, mask_congr (fun t ht => h t (by omega)), h n (by omega)]
theorem wc_lt (τ : Sg) (h : s_n τ ≤ 8) : whN τ < 256 := Nat.lt_of_lt_of_le (mask_lt _ _) (pw_8 h)
theorem wc_bit {τ : Sg} {v : Nat} : (whN τ / 2 ^ v &&& 1 = 1) ↔ (v < s_n τ ∧ s_th τ (6 * v) < 2) := by
  rw [bit_1, whN, mask_bit, Bool.and_eq_true, decide_eq_true_iff, decide_eq_true_iff]
theorem th6_lt {th : Nat → Nat} {n k a b t : Nat} (h : t < n) : th6 th n k a b (6 * t) = th (6 * t) := th6_at (i := 0) (by omega) (by decide)
theorem wh_T {τ : Sg} {k : Nat} {l : List Nat} (h : k < 4) : whN (doL τ k l) = whN τ ||| (if k < 2 then 2 ^ s_n τ else 0) := by
  rw [doL, if_pos h]
  show maskN (fun t => decide (th6 (s_th τ) (s_n τ) k (lg l 0) (lg l 1) (6 * t) < 2)) (s_n τ + 1) = _
  rw [maskN, th6_0, mask_congr (g := fun t => decide (s_th τ (6 * t) < 2)) (fun t ht => by rw [th6_lt ht])]
  unfold whN
  congr 1
  by_cases c : k < 2
  · rw [decide_eq_true c, if_pos c, if_pos rfl]
  · rw [decide_eq_false c, if_neg c, if_neg (by decide)]
theorem wh_F {τ : Sg} {k : Nat} {l : List Nat} (h : ¬ k < 4) (h7 : k < 7) : whN (doL τ k l) = whN τ := by
  rw [doL, if_neg h, if_pos h7]; rfl
theorem wh_8 {τ : Sg} {k : Nat} {l : List Nat} (h : 8 ≤ k) : whN (doL τ k l) = whN τ := by
  unfold doL
  rw [if_neg (by omega), if_neg (by omega), if_neg (by omega)]
  split
  · exact mask_congr (fun t _ => by show decide (updN (s_th τ) _ _ (6 * t) < 2) = _; rw [updN, if_neg (by omega)])
  · split
    · exact mask_congr (fun t _ => by show decide (updN (s_th τ) _ _ (6 * t) < 2) = _; rw [updN, if_neg (by omega)])
    · exact mask_congr (fun t _ => by show decide (updN (s_th τ) _ _ (6 * t) < 2) = _; rw [updN, if_neg (by omega)])
theorem tooM_T {τ : Sg} {k : Nat} (h : k < 4) : tooM τ k = decide (s_n τ = 8) := by
  rw [tooM, decide_eq_true h, decide_eq_false (show ¬ (4 ≤ k ∧ k < 7) by omega), Bool.true_and, Bool.false_and, Bool.or_false]
theorem tooM_F {τ : Sg} {k : Nat} (h : ¬ k < 4) (h7 : k < 7) : tooM τ k = decide (s_m τ = 3) := by
  rw [tooM, decide_eq_false h, decide_eq_true (show (4 ≤ k ∧ k < 7) by omega), Bool.true_and, Bool.false_and, Bool.false_or]
theorem tooM_o {τ : Sg} {k : Nat} (h : 7 ≤ k) : tooM τ k = false := by
  rw [tooM, decide_eq_false (show ¬ k < 4 by omega), decide_eq_false (show ¬ (4 ≤ k ∧ k < 7) by omega)]; rfl
/-- what may stand where a letter stands -/
def slC (τ : Sg) (c : Nat) : Nat → Bool := if c = 87 then inB 1 99 else if c = 66 then inB 0 1 else if c = 80 then inB 0 9 else if c = 86 then inB 0 9 else if c = 78 then inB 1 999 else if c = 82 then inB 1 8 else if c = 77 then inB 1 9 else if c = 84 then fun v => decide (v < s_n τ) else fun v => decide (v < s_n τ) && decide (s_th τ (6 * v) < 2)
def csB (τ : Sg) (c : Nat) : Option Nat → Bool
  | none => false
  | some v => slC τ c v
set_option maxHeartbeats 4000000 in
set_option maxRecDepth 100000 in
theorem k_X2_isSpelt (l : Launch) (D : va_G) (cy : Nat → ClassId) (ad aw aS aV aT : Nat → Nat) (σ : Sg) (J : Js) (o i : Nat) (hw : wfS σ) (hp : o ≤ s_ln σ) (hT : TKJ σ o J) (hi : i < 18) : MRC l yX2_isSpelt qX2_isSpelt 4 [.ref (ad 8), .ref (aS i)] D cy (cw cy ad aw σ J) aw aS aV aT (bI (spB σ o i)) := by
  refine Met.ofW (cc := cX2_isSpelt) (maxL := 4) (ret := (some .boolean)) (by decide) rfl ?_
  intro p e s m args below meth c s₁ B hml hv
  obtain ⟨rfl, hP, hK, hN, hC⟩ := hv
  have hx := B.exec
  have hb := B.bytes
  have hr := B.returns
  have hlocks := B.notSynchronized
  have hts : ∀ cq ∈ tg, cq.before ([.ref (ad 8), .ref (aS i)] : List Value).toArray s = true := fun cq h => atoms_spec (ws := qX2_isSpelt) B.pre cq (List.mem_cons_of_mem _ h)
  have hown : s.vm.findClass RX2 = some m.cls := findClass_of_methodNamed B.named
  have hS : va_S (fun _ => False) s.heap s.heap [] := va_S.rf
  have hl := lv_entry ([.ref (ad 8), .ref (aS i)]) (n := 4) (Nat.le_of_ble_eq_true rfl)
  rw [lg_entry_eq]
  generalize (lg_sl ([.ref (ad 8), .ref (aS i)]) ++ List.replicate (4 - (lg_sl ([.ref (ad 8), .ref (aS i)])).length) Slot.unset).toArray = ls at hl ⊢
  have hl : lv_has ls 4 [(0, .ref (ad 8)), (1, .ref (aS i))] := hl
  have hln := hw.2.2.2.2.1
  have htx := hw.2.2.2.2.2.1
  have hbl := tB_le hp
  have hel := tE_le hp
  have hbe := tB_tE σ o
  have htk := srt_le σ (tB σ o)
  rw [srt_tB hp] at htk
  have hl9 := ln_9 hi
  have hP : va_P D vwCl (cw cy ad aw σ (ju_so (ju_en (ju_be J (nI (tB σ o))) (nI (tE σ o))) (nI (tK σ o)))) s.heap := by rw [← hT.eta]; exact hP
  refine lv_aload_n hx hb dX2_isSpelt_0 rfl (lv_at hl 1 rfl) ?_
  refine kc_v (n := 0) (As := []) (rest := []) ⟨hx, hb, hml, hown, hts⟩ (k_J0_length_8abf5 l aw aS aV aT i (by omega)) gvX2_86 (by decide +kernel) ⟨Nat.le_of_ble_eq_true rfl, Nat.le_of_ble_eq_true rfl⟩ hC hS (hC.srecv (by omega) hS) rfl hl.1 rfl (Nat.le_of_ble_eq_true rfl) dX2_isSpelt_1 ⟨Nat.zero_le _, Nat.zero_le _⟩ ?_
  refine lv_istore_n (lv' := [(2, .int (nI (ln_ i))), (0, .ref (ad 8)), (1, .ref (aS i))]) hx hb dX2_isSpelt_4 rfl hl (by decide) rfl (fun ls hl => ?_)
  refine lv_aload_n hx hb dX2_isSpelt_5 rfl (lv_at hl 1 rfl) ?_
  refine va_get (D := D) (ci := 2) (v := .int (nI (tE σ o))) (C := RX2) (T := TX2) (N := 11) hx hb hts ni2 hown hK hP 8 (cw_c8 cy ad aw σ (ju_so (ju_en (ju_be J (nI (tB σ o))) (nI (tE σ o))) (nI (tK σ o)))) rfl 6 (by decide) (hts _ flX2_33) (fun _ h => h) rfl dX2_isSpelt_6 ?_
  refine lv_aload_n hx hb dX2_isSpelt_9 rfl (lv_at hl 1 rfl) ?_
  refine va_get (D := D) (ci := 2) (v := .int (nI (tB σ o))) (C := RX2) (T := TX2) (N := 11) hx hb hts ni2 hown hK hP 8 (cw_c8 cy ad aw σ (ju_so (ju_en (ju_be J (nI (tB σ o))) (nI (tE σ o))) (nI (tK σ o)))) rfl 5 (by decide) (hts _ flX2_114) (fun _ h => h) rfl dX2_isSpelt_10 ?_
  refine ln_isub hx hb dX2_isSpelt_13 (by omega) ?_
  refine lv_iload_n hx hb dX2_isSpelt_14 rfl (lv_at hl 0 rfl) ?_
  refine ln_icmp_eq (tgt := 20) hx hb dX2_isSpelt_15 (by decide) (by omega) (by omega) (fun c15 => ?_) (fun c15 => ?_)
  · refine lv_iconst (v := nI 0) hx hb dX2_isSpelt_20 (by decide) ?_
    refine lv_istore_n (lv' := [(3, .int (nI (0))), (2, .int (nI (ln_ i))), (0, .ref (ad 8)), (1, .ref (aS i))]) hx hb dX2_isSpelt_21 rfl hl (by decide) rfl (fun ls hl => ?_)
    have lp : ∀ (k j : Nat) (ls : Array Slot), j + k = ln_ i → spB σ o i = spR (s_tx σ) (tB σ o) i k j → lv_has ls 4 [(3, .int (nI (j))), (0, .ref (ad 8)), (1, .ref (aS i)), (2, .int (nI (ln_ i)))] → W p l e (headSpec qX2_isSpelt (rq 4)).room s m ([.ref (ad 8), .ref (aS i)] : List Value).toArray below meth c s.heap [] 0 0 (MQ below (vp_Si (fun r => r = bI (spB σ o i))) ([.ref (ad 8), .ref (aS i)] : List Value).toArray s 0 0 (fun _ => False)) (F0 m 22 ls []) := by
      intro k
      induction k with
      | zero =>
        intro j ls hk hsp hl
        refine lv_iload_n hx hb dX2_isSpelt_22 rfl (lv_at hl 0 rfl) ?_
        refine lv_iload_n hx hb dX2_isSpelt_23 rfl (lv_at hl 3 rfl) ?_
        refine ln_icmp_ge (tgt := 56) hx hb dX2_isSpelt_24 (by decide) (by omega) (by omega) (fun c24 => ?_) (fun c24 => ?_)
        · refine lv_iconst (v := nI 1) hx hb dX2_isSpelt_56 (by decide) ?_
          refine ln_eq bI_t.symm ?_
          exact rt_z hx hb hr hlocks (by rw [hsp]; rfl) dX2_isSpelt_57
        · exact absurd c24 (by omega)
      | succ k ih =>
        intro j ls hk hsp hl
        have hbb := bn_lt (i := i) (j := j) hi (by omega)
        have htj := htx (tB σ o + j)
        refine lv_iload_n hx hb dX2_isSpelt_22 rfl (lv_at hl 0 rfl) ?_
        refine lv_iload_n hx hb dX2_isSpelt_23 rfl (lv_at hl 3 rfl) ?_
        refine ln_icmp_ge (tgt := 56) hx hb dX2_isSpelt_24 (by decide) (by omega) (by omega) (fun c24 => ?_) (fun c24 => ?_)
        · exact absurd c24 (by omega)
        · refine lv_aload_n hx hb dX2_isSpelt_27 rfl (lv_at hl 2 rfl) ?_
          refine lv_iload_n hx hb dX2_isSpelt_28 rfl (lv_at hl 0 rfl) ?_
          refine kc_v (n := 1) (As := [.int (nI (j))]) (rest := []) ⟨hx, hb, hml, hown, hts⟩ (k_J0_charAt_5068e l aw aS aV aT i j (by omega) (by omega)) gvX2_95 (by decide +kernel) ⟨Nat.le_of_ble_eq_true rfl, Nat.le_of_ble_eq_true rfl⟩ hC hS (hC.srecv (by omega) hS) rfl hl.1 rfl (Nat.le_of_ble_eq_true rfl) dX2_isSpelt_29 ⟨Nat.zero_le _, Nat.zero_le _⟩ ?_
          refine lv_aload_n hx hb dX2_isSpelt_32 rfl (lv_at hl 1 rfl) ?_
          refine va_get (D := D) (ci := 2) (v := .ref (ad 1)) (C := RX2) (T := TX2) (N := 11) hx hb hts ni2 hown hK hP 8 (cw_c8 cy ad aw σ (ju_so (ju_en (ju_be J (nI (tB σ o))) (nI (tE σ o))) (nI (tK σ o)))) rfl 3 (by decide) (hts _ flX2_24) (fun _ h => h) rfl dX2_isSpelt_33 ?_
          refine lv_aload_n hx hb dX2_isSpelt_36 rfl (lv_at hl 1 rfl) ?_
          refine va_get (D := D) (ci := 2) (v := .int (nI (tB σ o))) (C := RX2) (T := TX2) (N := 11) hx hb hts ni2 hown hK hP 8 (cw_c8 cy ad aw σ (ju_so (ju_en (ju_be J (nI (tB σ o))) (nI (tE σ o))) (nI (tK σ o)))) rfl 5 (by decide) (hts _ flX2_114) (fun _ h => h) rfl dX2_isSpelt_37 ?_
          refine lv_iload_n hx hb dX2_isSpelt_40 rfl (lv_at hl 0 rfl) ?_
          refine ln_iadd hx hb dX2_isSpelt_41 ?_
          refine cr_v (n := 1) (As := [.int (nI ((tB σ o) + j))]) (rest := [.int (nI (bn_ i j))]) ⟨hx, hb, hml, hown, hts⟩ (k_byteAt1 l D cy ad aw σ (ju_so (ju_en (ju_be J (nI (tB σ o))) (nI (tE σ o))) (nI (tK σ o))) ((tB σ o) + j) hw (by omega)) gvX2_117 (by decide +kernel) ⟨Nat.le_of_ble_eq_true rfl, Nat.le_of_ble_eq_true rfl⟩ hK hN hP 1 (cw_c1 cy ad aw σ (ju_so (ju_en (ju_be J (nI (tB σ o))) (nI (tE σ o))) (nI (tK σ o)))) rfl rfl hl.1 rfl (Nat.le_of_ble_eq_true rfl) dX2_isSpelt_42 ⟨Nat.zero_le _, Nat.zero_le _⟩ ?_
          refine ln_icmp_eq (tgt := 50) hx hb dX2_isSpelt_45 (by decide) (by omega) (by omega) (fun c45 => ?_) (fun c45 => ?_)
          · refine ln_iinc (lv' := [(3, .int (nI (j + 1))), (0, .ref (ad 8)), (1, .ref (aS i)), (2, .int (nI (ln_ i)))]) hx hb dX2_isSpelt_50 hl (k := 0) (n := 1) rfl (by decide) rfl (fun ls hl => ?_)
            refine lv_goto (tgt := 22) hx hb dX2_isSpelt_53 (by decide) ?_
            exact ih (j + 1) ls (by omega) (by rw [hsp, spR, if_pos c45]) (lv_sub hl [0, 1, 2, 3] rfl)
          · refine lv_iconst (v := nI 0) hx hb dX2_isSpelt_48 (by decide) ?_
            refine ln_eq bI_f.symm ?_
            exact rt_z hx hb hr hlocks (by rw [hsp, spR, if_neg c45]) dX2_isSpelt_49
    exact lp (ln_ i) 0 ls (Nat.zero_add _) (by rw [spB, if_pos c15]) (lv_sub hl [0, 2, 3, 1] rfl)
  · refine lv_iconst (v := nI 0) hx hb dX2_isSpelt_18 (by decide) ?_
    refine ln_eq bI_f.symm ?_
    exact rt_z hx hb hr hlocks (by rw [spB, if_neg c15]) dX2_isSpelt_19
set_option maxHeartbeats 4000000 in
set_option maxRecDepth 100000 in
theorem k_X2_findWord (l : Launch) (D : va_G) (cy : Nat → ClassId) (ad aw aS aV aT : Nat → Nat) (σ : Sg) (J : Js) (o : Nat) (hw : wfS σ) (hp : o ≤ s_ln σ) (hT : TKJ σ o J) : MEC l yX2_findWord qX2_findWord 5 [.ref (ad 8)] D cy (cw cy ad aw σ J) aw aS aV aT (fwO σ o) := by
  refine Met.ofW (cc := cX2_findWord) (maxL := 2) (ret := (some (.object "NumberFerries$Word"))) (by decide) rfl ?_
  intro p e s m args below meth c s₁ B hml hv
  obtain ⟨rfl, hP, hK, hN, hC⟩ := hv
  have hx := B.exec
  have hb := B.bytes
  have hr := B.returns
  have hlocks := B.notSynchronized
  have hts : ∀ cq ∈ tg, cq.before ([.ref (ad 8)] : List Value).toArray s = true := fun cq h => atoms_spec (ws := qX2_findWord) B.pre cq (List.mem_cons_of_mem _ h)
  have hown : s.vm.findClass RX2 = some m.cls := findClass_of_methodNamed B.named
  have hS : va_S (fun _ => False) s.heap s.heap [] := va_S.rf
  have hl := lv_entry ([.ref (ad 8)]) (n := 2) (Nat.le_of_ble_eq_true rfl)
  rw [lg_entry_eq]
  generalize (lg_sl ([.ref (ad 8)]) ++ List.replicate (2 - (lg_sl ([.ref (ad 8)])).length) Slot.unset).toArray = ls at hl ⊢
  have hl : lv_has ls 2 [(0, .ref (ad 8))] := hl
  have hln := hw.2.2.2.2.1
  have htx := hw.2.2.2.2.2.1
  have hbl := tB_le hp
  have hel := tE_le hp
  have hbe := tB_tE σ o
  have htk := srt_le σ (tB σ o)
  rw [srt_tB hp] at htk
  refine lv_iconst (v := nI 0) hx hb dX2_findWord_0 (by decide) ?_
  refine lv_istore_n (lv' := [(1, .int (nI (0))), (0, .ref (ad 8))]) hx hb dX2_findWord_1 rfl hl (by decide) rfl (fun ls hl => ?_)
  have lp : ∀ (k j : Nat) (ls : Array Slot), j + k = 11 → fwO σ o = fwF σ o k j → lv_has ls 2 [(1, .int (nI (j))), (0, .ref (ad 8))] → W p l e (headSpec qX2_findWord (rq 5)).room s m ([.ref (ad 8)] : List Value).toArray below meth c s.heap [] 0 0 (MQ below (va_Se aw (fun r => r = fwO σ o)) ([.ref (ad 8)] : List Value).toArray s 0 0 (fun _ => False)) (F0 m 2 ls []) := by
    intro k
    induction k with
    | zero =>
      intro j ls hk hfw hl
      refine lv_iload_n hx hb dX2_findWord_2 rfl (lv_at hl 0 rfl) ?_
      refine va_gets hx hb hC.2.2.2.1.1 hS hown (hts _ flX2_128) (fun _ h => h) dX2_findWord_3 ?_
      refine va_tlen (v := (nI (11))) hx hb hC.2.2.2.1.2 hS rfl dX2_findWord_6 ?_
      refine ln_icmp_ge (tgt := 37) hx hb dX2_findWord_7 (by decide) (by omega) (by omega) (fun c7 => ?_) (fun c7 => ?_)
      · refine lv_null hx hb dX2_findWord_37 ?_
        exact rt_e (aw := aw) (o := none) hx hb hr hlocks (by rw [hfw]; rfl) dX2_findWord_38
      · exact absurd c7 (by omega)
    | succ k ih =>
      intro j ls hk hfw hl
      have hws := wsp_lt (i := j) (by omega)
      refine lv_iload_n hx hb dX2_findWord_2 rfl (lv_at hl 0 rfl) ?_
      refine va_gets hx hb hC.2.2.2.1.1 hS hown (hts _ flX2_128) (fun _ h => h) dX2_findWord_3 ?_
      refine va_tlen (v := (nI (11))) hx hb hC.2.2.2.1.2 hS rfl dX2_findWord_6 ?_
      refine ln_icmp_ge (tgt := 37) hx hb dX2_findWord_7 (by decide) (by omega) (by omega) (fun c7 => ?_) (fun c7 => ?_)
      · exact absurd c7 (by omega)
      · refine lv_aload_n hx hb dX2_findWord_10 rfl (lv_at hl 1 rfl) ?_
        refine va_gets hx hb hC.2.2.2.1.1 hS hown (hts _ flX2_128) (fun _ h => h) dX2_findWord_11 ?_
        refine lv_iload_n hx hb dX2_findWord_14 rfl (lv_at hl 0 rfl) ?_
        refine lk_tq (v := .ref (aw j)) hx hb hC.2.2.2.1.2 hS (by omega) (by decide) rfl dX2_findWord_15 ?_
        refine vk_getf (v := .ref (aS (wsp j))) hx hb (hC.1 j (by omega)).2.1 hS hown (hts _ flX2_132) (fun _ h => h) dX2_findWord_16 ?_
        refine kr_v (n := 1) (As := [.ref (aS (wsp j))]) (rest := []) ⟨hx, hb, hml, hown, hts⟩ (k_X2_isSpelt l D cy ad aw aS aV aT σ J o (wsp j) hw hp hT (by omega)) gvX2_135 (by decide +kernel) ⟨Nat.le_of_ble_eq_true rfl, Nat.le_of_ble_eq_true rfl⟩ hK hN hP hC hS 8 (cw_c8 cy ad aw σ J) rfl rfl hl.1 rfl (Nat.le_of_ble_eq_true rfl) dX2_findWord_19 ⟨Nat.zero_le _, Nat.zero_le _⟩ ?_
        refine lb_if_eq (tgt := 31) hx hb dX2_findWord_22 (by decide) (fun c22 => ?_) (fun c22 => ?_)
        · refine ln_iinc (lv' := [(1, .int (nI (j + 1))), (0, .ref (ad 8))]) hx hb dX2_findWord_31 hl (k := 0) (n := 1) rfl (by decide) rfl (fun ls hl => ?_)
          refine lv_goto (tgt := 2) hx hb dX2_findWord_34 (by decide) ?_
          exact ih (j + 1) ls (by omega) (by rw [hfw, fwF, if_neg (by rw [c22]; decide)]) (lv_sub hl [0, 1] rfl)
        · refine va_gets hx hb hC.2.2.2.1.1 hS hown (hts _ flX2_128) (fun _ h => h) dX2_findWord_25 ?_
          refine lv_iload_n hx hb dX2_findWord_28 rfl (lv_at hl 0 rfl) ?_
          refine lk_tq (v := .ref (aw j)) hx hb hC.2.2.2.1.2 hS (by omega) (by decide) rfl dX2_findWord_29 ?_
          exact rt_e (aw := aw) (o := some j) hx hb hr hlocks (by rw [hfw, fwF, if_pos c22]) dX2_findWord_30
  exact lp 11 0 ls rfl rfl (lv_sub hl [0, 1] rfl)
set_option maxHeartbeats 4000000 in
set_option maxRecDepth 100000 in
theorem k_X2_isTooMany (l : Launch) (D : va_G) (cy : Nat → ClassId) (ad aw aS aV aT : Nat → Nat) (σ : Sg) (J : Js) (τ : Sg) (i : Nat) (hi : i < 11) (hR : RTc τ J) (h8 : s_n τ ≤ 8) (h3 : s_m τ ≤ 3) : MRC l yX2_isTooMany qX2_isTooMany 0 [.ref (ad 8), .ref (aw i)] D cy (cw cy ad aw σ J) aw aS aV aT (bI (tooM τ (wo i))) := by
  refine Met.ofW (cc := cX2_isTooMany) (maxL := 2) (ret := (some .boolean)) (by decide) rfl ?_
  intro p e s m args below meth c s₁ B hml hv
  obtain ⟨rfl, hP, hK, hN, hC⟩ := hv
  have hx := B.exec
  have hb := B.bytes
  have hr := B.returns
  have hlocks := B.notSynchronized
  have hts : ∀ cq ∈ tg, cq.before ([.ref (ad 8), .ref (aw i)] : List Value).toArray s = true := fun cq h => atoms_spec (ws := qX2_isTooMany) B.pre cq (List.mem_cons_of_mem _ h)
  have hown : s.vm.findClass RX2 = some m.cls := findClass_of_methodNamed B.named
  have hS : va_S (fun _ => False) s.heap s.heap [] := va_S.rf
  have hl := lv_entry ([.ref (ad 8), .ref (aw i)]) (n := 2) (Nat.le_of_ble_eq_true rfl)
  rw [lg_entry_eq]
  generalize (lg_sl ([.ref (ad 8), .ref (aw i)]) ++ List.replicate (2 - (lg_sl ([.ref (ad 8), .ref (aw i)])).length) Slot.unset).toArray = ls at hl ⊢
  have hl : lv_has ls 2 [(0, .ref (ad 8)), (1, .ref (aw i))] := hl
  have hP : va_P D vwCl (cw cy ad aw σ (ju_rf (ju_rh (ju_rt J (nI (s_n τ))) (nI (whN τ))) (nI (s_m τ)))) s.heap := by rw [← hR.eta]; exact hP
  rcases (show i = 0 ∨ i = 1 ∨ i = 2 ∨ i = 3 ∨ i = 4 ∨ i = 5 ∨ i = 6 ∨ i = 7 ∨ i = 8 ∨ i = 9 ∨ i = 10 by omega) with rfl | rfl | rfl | rfl | rfl | rfl | rfl | rfl | rfl | rfl | rfl
  · refine lv_aload_n hx hb dX2_isTooMany_0 rfl (lv_at hl 1 rfl) ?_
    refine vk_getf (v := .int (-1)) hx hb (hC.1 0 (by decide)).2.2.2.1 hS hown (hts _ flX2_139) (fun _ h => h) dX2_isTooMany_1 ?_
    refine lv_iconst (v := -1) hx hb dX2_isTooMany_4 (by decide) ?_
    refine lv_icmp_eq (tgt := 17) hx hb dX2_isTooMany_5 (by decide) (fun _ => ?_) (fun c => absurd rfl c)
    refine lv_aload_n hx hb dX2_isTooMany_17 rfl (lv_at hl 1 rfl) ?_
    refine vk_getf (v := .int (-1)) hx hb (hC.1 0 (by decide)).2.2.2.2 hS hown (hts _ flX2_142) (fun _ h => h) dX2_isTooMany_18 ?_
    refine lv_iconst (v := -1) hx hb dX2_isTooMany_21 (by decide) ?_
    refine lv_icmp_eq (tgt := 37) hx hb dX2_isTooMany_22 (by decide) (fun _ => ?_) (fun c => absurd rfl c)
    refine lv_iconst (v := nI 0) hx hb dX2_isTooMany_37 (by decide) ?_
    refine ln_eq bI_f.symm ?_
    exact rt_z hx hb hr hlocks ((tooM_o (k := wo 0) (by decide)).symm) dX2_isTooMany_38
  · refine lv_aload_n hx hb dX2_isTooMany_0 rfl (lv_at hl 1 rfl) ?_
    refine vk_getf (v := .int (nI (0))) hx hb (hC.1 1 (by decide)).2.2.2.1 hS hown (hts _ flX2_139) (fun _ h => h) dX2_isTooMany_1 ?_
    refine lv_iconst (v := -1) hx hb dX2_isTooMany_4 (by decide) ?_
    refine lv_icmp_eq (tgt := 17) hx hb dX2_isTooMany_5 (by decide) (fun c => absurd c (m1_ne _ (by omega))) (fun _ => ?_)
    refine lv_aload_n hx hb dX2_isTooMany_8 rfl (lv_at hl 0 rfl) ?_
    refine va_get (D := D) (ci := 2) (v := .int (nI (s_n τ))) (C := RX2) (T := TX2) (N := 11) hx hb hts ni2 hown hK hP 8 (cw_c8 cy ad aw σ (ju_rf (ju_rh (ju_rt J (nI (s_n τ))) (nI (whN τ))) (nI (s_m τ)))) rfl 8 (by decide) (hts _ flX2_41) (fun _ h => h) rfl dX2_isTooMany_9 ?_
    refine lv_bipush (v := nI 8) hx hb dX2_isTooMany_12 (by decide) ?_
    refine ln_icmp_ge (tgt := 33) hx hb dX2_isTooMany_14 (by decide) (by omega) (by omega) (fun c14 => ?_) (fun c14 => ?_)
    · refine lv_iconst (v := nI 1) hx hb dX2_isTooMany_33 (by decide) ?_
      refine lv_goto (tgt := 38) hx hb dX2_isTooMany_34 (by decide) ?_
      refine ln_eq bI_t.symm ?_
      exact rt_z hx hb hr hlocks (((tooM_T (k := wo 1) (by decide)).trans (decide_eq_true (by omega))).symm) dX2_isTooMany_38
    · refine lv_aload_n hx hb dX2_isTooMany_17 rfl (lv_at hl 1 rfl) ?_
      refine vk_getf (v := .int (-1)) hx hb (hC.1 1 (by decide)).2.2.2.2 hS hown (hts _ flX2_142) (fun _ h => h) dX2_isTooMany_18 ?_
      refine lv_iconst (v := -1) hx hb dX2_isTooMany_21 (by decide) ?_
      refine lv_icmp_eq (tgt := 37) hx hb dX2_isTooMany_22 (by decide) (fun _ => ?_) (fun c => absurd rfl c)
      refine lv_iconst (v := nI 0) hx hb dX2_isTooMany_37 (by decide) ?_
      refine ln_eq bI_f.symm ?_
      exact rt_z hx hb hr hlocks (((tooM_T (k := wo 1) (by decide)).trans (decide_eq_false (by omega))).symm) dX2_isTooMany_38
  · refine lv_aload_n hx hb dX2_isTooMany_0 rfl (lv_at hl 1 rfl) ?_
    refine vk_getf (v := .int (nI (1))) hx hb (hC.1 2 (by decide)).2.2.2.1 hS hown (hts _ flX2_139) (fun _ h => h) dX2_isTooMany_1 ?_
    refine lv_iconst (v := -1) hx hb dX2_isTooMany_4 (by decide) ?_
    refine lv_icmp_eq (tgt := 17) hx hb dX2_isTooMany_5 (by decide) (fun c => absurd c (m1_ne _ (by omega))) (fun _ => ?_)
    refine lv_aload_n hx hb dX2_isTooMany_8 rfl (lv_at hl 0 rfl) ?_
    refine va_get (D := D) (ci := 2) (v := .int (nI (s_n τ))) (C := RX2) (T := TX2) (N := 11) hx hb hts ni2 hown hK hP 8 (cw_c8 cy ad aw σ (ju_rf (ju_rh (ju_rt J (nI (s_n τ))) (nI (whN τ))) (nI (s_m τ)))) rfl 8 (by decide) (hts _ flX2_41) (fun _ h => h) rfl dX2_isTooMany_9 ?_
    refine lv_bipush (v := nI 8) hx hb dX2_isTooMany_12 (by decide) ?_
    refine ln_icmp_ge (tgt := 33) hx hb dX2_isTooMany_14 (by decide) (by omega) (by omega) (fun c14 => ?_) (fun c14 => ?_)
    · refine lv_iconst (v := nI 1) hx hb dX2_isTooMany_33 (by decide) ?_
      refine lv_goto (tgt := 38) hx hb dX2_isTooMany_34 (by decide) ?_
      refine ln_eq bI_t.symm ?_
      exact rt_z hx hb hr hlocks (((tooM_T (k := wo 2) (by decide)).trans (decide_eq_true (by omega))).symm) dX2_isTooMany_38
    · refine lv_aload_n hx hb dX2_isTooMany_17 rfl (lv_at hl 1 rfl) ?_
      refine vk_getf (v := .int (-1)) hx hb (hC.1 2 (by decide)).2.2.2.2 hS hown (hts _ flX2_142) (fun _ h => h) dX2_isTooMany_18 ?_
      refine lv_iconst (v := -1) hx hb dX2_isTooMany_21 (by decide) ?_
      refine lv_icmp_eq (tgt := 37) hx hb dX2_isTooMany_22 (by decide) (fun _ => ?_) (fun c => absurd rfl c)
      refine lv_iconst (v := nI 0) hx hb dX2_isTooMany_37 (by decide) ?_
      refine ln_eq bI_f.symm ?_
      exact rt_z hx hb hr hlocks (((tooM_T (k := wo 2) (by decide)).trans (decide_eq_false (by omega))).symm) dX2_isTooMany_38
  · refine lv_aload_n hx hb dX2_isTooMany_0 rfl (lv_at hl 1 rfl) ?_
    refine vk_getf (v := .int (nI (2))) hx hb (hC.1 3 (by decide)).2.2.2.1 hS hown (hts _ flX2_139) (fun _ h => h) dX2_isTooMany_1 ?_
    refine lv_iconst (v := -1) hx hb dX2_isTooMany_4 (by decide) ?_
    refine lv_icmp_eq (tgt := 17) hx hb dX2_isTooMany_5 (by decide) (fun c => absurd c (m1_ne _ (by omega))) (fun _ => ?_)
    refine lv_aload_n hx hb dX2_isTooMany_8 rfl (lv_at hl 0 rfl) ?_
    refine va_get (D := D) (ci := 2) (v := .int (nI (s_n τ))) (C := RX2) (T := TX2) (N := 11) hx hb hts ni2 hown hK hP 8 (cw_c8 cy ad aw σ (ju_rf (ju_rh (ju_rt J (nI (s_n τ))) (nI (whN τ))) (nI (s_m τ)))) rfl 8 (by decide) (hts _ flX2_41) (fun _ h => h) rfl dX2_isTooMany_9 ?_
    refine lv_bipush (v := nI 8) hx hb dX2_isTooMany_12 (by decide) ?_
    refine ln_icmp_ge (tgt := 33) hx hb dX2_isTooMany_14 (by decide) (by omega) (by omega) (fun c14 => ?_) (fun c14 => ?_)
    · refine lv_iconst (v := nI 1) hx hb dX2_isTooMany_33 (by decide) ?_
      refine lv_goto (tgt := 38) hx hb dX2_isTooMany_34 (by decide) ?_
      refine ln_eq bI_t.symm ?_
      exact rt_z hx hb hr hlocks (((tooM_T (k := wo 3) (by decide)).trans (decide_eq_true (by omega))).symm) dX2_isTooMany_38
    · refine lv_aload_n hx hb dX2_isTooMany_17 rfl (lv_at hl 1 rfl) ?_
      refine vk_getf (v := .int (-1)) hx hb (hC.1 3 (by decide)).2.2.2.2 hS hown (hts _ flX2_142) (fun _ h => h) dX2_isTooMany_18 ?_
      refine lv_iconst (v := -1) hx hb dX2_isTooMany_21 (by decide) ?_
      refine lv_icmp_eq (tgt := 37) hx hb dX2_isTooMany_22 (by decide) (fun _ => ?_) (fun c => absurd rfl c)
      refine lv_iconst (v := nI 0) hx hb dX2_isTooMany_37 (by decide) ?_
      refine ln_eq bI_f.symm ?_
      exact rt_z hx hb hr hlocks (((tooM_T (k := wo 3) (by decide)).trans (decide_eq_false (by omega))).symm) dX2_isTooMany_38
  · refine lv_aload_n hx hb dX2_isTooMany_0 rfl (lv_at hl 1 rfl) ?_
    refine vk_getf (v := .int (nI (3))) hx hb (hC.1 4 (by decide)).2.2.2.1 hS hown (hts _ flX2_139) (fun _ h => h) dX2_isTooMany_1 ?_
    refine lv_iconst (v := -1) hx hb dX2_isTooMany_4 (by decide) ?_
    refine lv_icmp_eq (tgt := 17) hx hb dX2_isTooMany_5 (by decide) (fun c => absurd c (m1_ne _ (by omega))) (fun _ => ?_)
    refine lv_aload_n hx hb dX2_isTooMany_8 rfl (lv_at hl 0 rfl) ?_
    refine va_get (D := D) (ci := 2) (v := .int (nI (s_n τ))) (C := RX2) (T := TX2) (N := 11) hx hb hts ni2 hown hK hP 8 (cw_c8 cy ad aw σ (ju_rf (ju_rh (ju_rt J (nI (s_n τ))) (nI (whN τ))) (nI (s_m τ)))) rfl 8 (by decide) (hts _ flX2_41) (fun _ h => h) rfl dX2_isTooMany_9 ?_
    refine lv_bipush (v := nI 8) hx hb dX2_isTooMany_12 (by decide) ?_
    refine ln_icmp_ge (tgt := 33) hx hb dX2_isTooMany_14 (by decide) (by omega) (by omega) (fun c14 => ?_) (fun c14 => ?_)
    · refine lv_iconst (v := nI 1) hx hb dX2_isTooMany_33 (by decide) ?_
      refine lv_goto (tgt := 38) hx hb dX2_isTooMany_34 (by decide) ?_
      refine ln_eq bI_t.symm ?_
      exact rt_z hx hb hr hlocks (((tooM_T (k := wo 4) (by decide)).trans (decide_eq_true (by omega))).symm) dX2_isTooMany_38
    · refine lv_aload_n hx hb dX2_isTooMany_17 rfl (lv_at hl 1 rfl) ?_
      refine vk_getf (v := .int (-1)) hx hb (hC.1 4 (by decide)).2.2.2.2 hS hown (hts _ flX2_142) (fun _ h => h) dX2_isTooMany_18 ?_
      refine lv_iconst (v := -1) hx hb dX2_isTooMany_21 (by decide) ?_
      refine lv_icmp_eq (tgt := 37) hx hb dX2_isTooMany_22 (by decide) (fun _ => ?_) (fun c => absurd rfl c)
      refine lv_iconst (v := nI 0) hx hb dX2_isTooMany_37 (by decide) ?_
      refine ln_eq bI_f.symm ?_
      exact rt_z hx hb hr hlocks (((tooM_T (k := wo 4) (by decide)).trans (decide_eq_false (by omega))).symm) dX2_isTooMany_38
  · refine lv_aload_n hx hb dX2_isTooMany_0 rfl (lv_at hl 1 rfl) ?_
    refine vk_getf (v := .int (-1)) hx hb (hC.1 5 (by decide)).2.2.2.1 hS hown (hts _ flX2_139) (fun _ h => h) dX2_isTooMany_1 ?_
    refine lv_iconst (v := -1) hx hb dX2_isTooMany_4 (by decide) ?_
    refine lv_icmp_eq (tgt := 17) hx hb dX2_isTooMany_5 (by decide) (fun _ => ?_) (fun c => absurd rfl c)
    refine lv_aload_n hx hb dX2_isTooMany_17 rfl (lv_at hl 1 rfl) ?_
    refine vk_getf (v := .int (-1)) hx hb (hC.1 5 (by decide)).2.2.2.2 hS hown (hts _ flX2_142) (fun _ h => h) dX2_isTooMany_18 ?_
    refine lv_iconst (v := -1) hx hb dX2_isTooMany_21 (by decide) ?_
    refine lv_icmp_eq (tgt := 37) hx hb dX2_isTooMany_22 (by decide) (fun _ => ?_) (fun c => absurd rfl c)
    refine lv_iconst (v := nI 0) hx hb dX2_isTooMany_37 (by decide) ?_
    refine ln_eq bI_f.symm ?_
    exact rt_z hx hb hr hlocks ((tooM_o (k := wo 5) (by decide)).symm) dX2_isTooMany_38
  · refine lv_aload_n hx hb dX2_isTooMany_0 rfl (lv_at hl 1 rfl) ?_
    refine vk_getf (v := .int (-1)) hx hb (hC.1 6 (by decide)).2.2.2.1 hS hown (hts _ flX2_139) (fun _ h => h) dX2_isTooMany_1 ?_
    refine lv_iconst (v := -1) hx hb dX2_isTooMany_4 (by decide) ?_
    refine lv_icmp_eq (tgt := 17) hx hb dX2_isTooMany_5 (by decide) (fun _ => ?_) (fun c => absurd rfl c)
    refine lv_aload_n hx hb dX2_isTooMany_17 rfl (lv_at hl 1 rfl) ?_
    refine vk_getf (v := .int (-1)) hx hb (hC.1 6 (by decide)).2.2.2.2 hS hown (hts _ flX2_142) (fun _ h => h) dX2_isTooMany_18 ?_
    refine lv_iconst (v := -1) hx hb dX2_isTooMany_21 (by decide) ?_
    refine lv_icmp_eq (tgt := 37) hx hb dX2_isTooMany_22 (by decide) (fun _ => ?_) (fun c => absurd rfl c)
    refine lv_iconst (v := nI 0) hx hb dX2_isTooMany_37 (by decide) ?_
    refine ln_eq bI_f.symm ?_
    exact rt_z hx hb hr hlocks ((tooM_o (k := wo 6) (by decide)).symm) dX2_isTooMany_38
  · refine lv_aload_n hx hb dX2_isTooMany_0 rfl (lv_at hl 1 rfl) ?_
    refine vk_getf (v := .int (-1)) hx hb (hC.1 7 (by decide)).2.2.2.1 hS hown (hts _ flX2_139) (fun _ h => h) dX2_isTooMany_1 ?_
    refine lv_iconst (v := -1) hx hb dX2_isTooMany_4 (by decide) ?_
    refine lv_icmp_eq (tgt := 17) hx hb dX2_isTooMany_5 (by decide) (fun _ => ?_) (fun c => absurd rfl c)
    refine lv_aload_n hx hb dX2_isTooMany_17 rfl (lv_at hl 1 rfl) ?_
    refine vk_getf (v := .int (-1)) hx hb (hC.1 7 (by decide)).2.2.2.2 hS hown (hts _ flX2_142) (fun _ h => h) dX2_isTooMany_18 ?_
    refine lv_iconst (v := -1) hx hb dX2_isTooMany_21 (by decide) ?_
    refine lv_icmp_eq (tgt := 37) hx hb dX2_isTooMany_22 (by decide) (fun _ => ?_) (fun c => absurd rfl c)
    refine lv_iconst (v := nI 0) hx hb dX2_isTooMany_37 (by decide) ?_
    refine ln_eq bI_f.symm ?_
    exact rt_z hx hb hr hlocks ((tooM_o (k := wo 7) (by decide)).symm) dX2_isTooMany_38
  · refine lv_aload_n hx hb dX2_isTooMany_0 rfl (lv_at hl 1 rfl) ?_
    refine vk_getf (v := .int (-1)) hx hb (hC.1 8 (by decide)).2.2.2.1 hS hown (hts _ flX2_139) (fun _ h => h) dX2_isTooMany_1 ?_
    refine lv_iconst (v := -1) hx hb dX2_isTooMany_4 (by decide) ?_
    refine lv_icmp_eq (tgt := 17) hx hb dX2_isTooMany_5 (by decide) (fun _ => ?_) (fun c => absurd rfl c)
    refine lv_aload_n hx hb dX2_isTooMany_17 rfl (lv_at hl 1 rfl) ?_
    refine vk_getf (v := .int (nI (0))) hx hb (hC.1 8 (by decide)).2.2.2.2 hS hown (hts _ flX2_142) (fun _ h => h) dX2_isTooMany_18 ?_
    refine lv_iconst (v := -1) hx hb dX2_isTooMany_21 (by decide) ?_
    refine lv_icmp_eq (tgt := 37) hx hb dX2_isTooMany_22 (by decide) (fun c => absurd c (m1_ne _ (by omega))) (fun _ => ?_)
    refine lv_aload_n hx hb dX2_isTooMany_25 rfl (lv_at hl 0 rfl) ?_
    refine va_get (D := D) (ci := 2) (v := .int (nI (s_m τ))) (C := RX2) (T := TX2) (N := 11) hx hb hts ni2 hown hK hP 8 (cw_c8 cy ad aw σ (ju_rf (ju_rh (ju_rt J (nI (s_n τ))) (nI (whN τ))) (nI (s_m τ)))) rfl 10 (by decide) (hts _ flX2_51) (fun _ h => h) rfl dX2_isTooMany_26 ?_
    refine lv_iconst (v := nI 3) hx hb dX2_isTooMany_29 (by decide) ?_
    refine ln_icmp_lt (tgt := 37) hx hb dX2_isTooMany_30 (by decide) (by omega) (by omega) (fun c30 => ?_) (fun c30 => ?_)
    · refine lv_iconst (v := nI 0) hx hb dX2_isTooMany_37 (by decide) ?_
      refine ln_eq bI_f.symm ?_
      exact rt_z hx hb hr hlocks (((tooM_F (k := wo 8) (by decide) (by decide)).trans (decide_eq_false (by omega))).symm) dX2_isTooMany_38
    · refine lv_iconst (v := nI 1) hx hb dX2_isTooMany_33 (by decide) ?_
      refine lv_goto (tgt := 38) hx hb dX2_isTooMany_34 (by decide) ?_
      refine ln_eq bI_t.symm ?_
      exact rt_z hx hb hr hlocks (((tooM_F (k := wo 8) (by decide) (by decide)).trans (decide_eq_true (by omega))).symm) dX2_isTooMany_38
  · refine lv_aload_n hx hb dX2_isTooMany_0 rfl (lv_at hl 1 rfl) ?_
    refine vk_getf (v := .int (-1)) hx hb (hC.1 9 (by decide)).2.2.2.1 hS hown (hts _ flX2_139) (fun _ h => h) dX2_isTooMany_1 ?_
    refine lv_iconst (v := -1) hx hb dX2_isTooMany_4 (by decide) ?_
    refine lv_icmp_eq (tgt := 17) hx hb dX2_isTooMany_5 (by decide) (fun _ => ?_) (fun c => absurd rfl c)
    refine lv_aload_n hx hb dX2_isTooMany_17 rfl (lv_at hl 1 rfl) ?_
    refine vk_getf (v := .int (nI (1))) hx hb (hC.1 9 (by decide)).2.2.2.2 hS hown (hts _ flX2_142) (fun _ h => h) dX2_isTooMany_18 ?_
    refine lv_iconst (v := -1) hx hb dX2_isTooMany_21 (by decide) ?_
    refine lv_icmp_eq (tgt := 37) hx hb dX2_isTooMany_22 (by decide) (fun c => absurd c (m1_ne _ (by omega))) (fun _ => ?_)
    refine lv_aload_n hx hb dX2_isTooMany_25 rfl (lv_at hl 0 rfl) ?_
    refine va_get (D := D) (ci := 2) (v := .int (nI (s_m τ))) (C := RX2) (T := TX2) (N := 11) hx hb hts ni2 hown hK hP 8 (cw_c8 cy ad aw σ (ju_rf (ju_rh (ju_rt J (nI (s_n τ))) (nI (whN τ))) (nI (s_m τ)))) rfl 10 (by decide) (hts _ flX2_51) (fun _ h => h) rfl dX2_isTooMany_26 ?_
    refine lv_iconst (v := nI 3) hx hb dX2_isTooMany_29 (by decide) ?_
    refine ln_icmp_lt (tgt := 37) hx hb dX2_isTooMany_30 (by decide) (by omega) (by omega) (fun c30 => ?_) (fun c30 => ?_)
    · refine lv_iconst (v := nI 0) hx hb dX2_isTooMany_37 (by decide) ?_
      refine ln_eq bI_f.symm ?_
      exact rt_z hx hb hr hlocks (((tooM_F (k := wo 9) (by decide) (by decide)).trans (decide_eq_false (by omega))).symm) dX2_isTooMany_38
    · refine lv_iconst (v := nI 1) hx hb dX2_isTooMany_33 (by decide) ?_
      refine lv_goto (tgt := 38) hx hb dX2_isTooMany_34 (by decide) ?_
      refine ln_eq bI_t.symm ?_
      exact rt_z hx hb hr hlocks (((tooM_F (k := wo 9) (by decide) (by decide)).trans (decide_eq_true (by omega))).symm) dX2_isTooMany_38
  · refine lv_aload_n hx hb dX2_isTooMany_0 rfl (lv_at hl 1 rfl) ?_
    refine vk_getf (v := .int (-1)) hx hb (hC.1 10 (by decide)).2.2.2.1 hS hown (hts _ flX2_139) (fun _ h => h) dX2_isTooMany_1 ?_
    refine lv_iconst (v := -1) hx hb dX2_isTooMany_4 (by decide) ?_
    refine lv_icmp_eq (tgt := 17) hx hb dX2_isTooMany_5 (by decide) (fun _ => ?_) (fun c => absurd rfl c)
    refine lv_aload_n hx hb dX2_isTooMany_17 rfl (lv_at hl 1 rfl) ?_
    refine vk_getf (v := .int (nI (2))) hx hb (hC.1 10 (by decide)).2.2.2.2 hS hown (hts _ flX2_142) (fun _ h => h) dX2_isTooMany_18 ?_
    refine lv_iconst (v := -1) hx hb dX2_isTooMany_21 (by decide) ?_
    refine lv_icmp_eq (tgt := 37) hx hb dX2_isTooMany_22 (by decide) (fun c => absurd c (m1_ne _ (by omega))) (fun _ => ?_)
    refine lv_aload_n hx hb dX2_isTooMany_25 rfl (lv_at hl 0 rfl) ?_
    refine va_get (D := D) (ci := 2) (v := .int (nI (s_m τ))) (C := RX2) (T := TX2) (N := 11) hx hb hts ni2 hown hK hP 8 (cw_c8 cy ad aw σ (ju_rf (ju_rh (ju_rt J (nI (s_n τ))) (nI (whN τ))) (nI (s_m τ)))) rfl 10 (by decide) (hts _ flX2_51) (fun _ h => h) rfl dX2_isTooMany_26 ?_
    refine lv_iconst (v := nI 3) hx hb dX2_isTooMany_29 (by decide) ?_
    refine ln_icmp_lt (tgt := 37) hx hb dX2_isTooMany_30 (by decide) (by omega) (by omega) (fun c30 => ?_) (fun c30 => ?_)
    · refine lv_iconst (v := nI 0) hx hb dX2_isTooMany_37 (by decide) ?_
      refine ln_eq bI_f.symm ?_
      exact rt_z hx hb hr hlocks (((tooM_F (k := wo 10) (by decide) (by decide)).trans (decide_eq_false (by omega))).symm) dX2_isTooMany_38
    · refine lv_iconst (v := nI 1) hx hb dX2_isTooMany_33 (by decide) ?_
      refine lv_goto (tgt := 38) hx hb dX2_isTooMany_34 (by decide) ?_
      refine ln_eq bI_t.symm ?_
      exact rt_z hx hb hr hlocks (((tooM_F (k := wo 10) (by decide) (by decide)).trans (decide_eq_true (by omega))).symm) dX2_isTooMany_38
theorem slC_87 {τ : Sg} : slC τ 87 = inB 1 99 := rfl
theorem slC_66 {τ : Sg} : slC τ 66 = inB 0 1 := rfl
theorem slC_80 {τ : Sg} : slC τ 80 = inB 0 9 := rfl
theorem slC_86 {τ : Sg} : slC τ 86 = inB 0 9 := rfl
theorem slC_78 {τ : Sg} : slC τ 78 = inB 1 999 := rfl
theorem slC_82 {τ : Sg} : slC τ 82 = inB 1 8 := rfl
theorem slC_77 {τ : Sg} : slC τ 77 = inB 1 9 := rfl
theorem slC_84 {τ : Sg} : slC τ 84 = fun v => decide (v < s_n τ) := rfl
theorem slC_72 {τ : Sg} : slC τ 72 = fun v => decide (v < s_n τ) && decide (s_th τ (6 * v) < 2) := rfl
set_option maxHeartbeats 4000000 in
set_option maxRecDepth 100000 in
theorem k_X2_canStand (l : Launch) (D : va_G) (cy : Nat → ClassId) (ad aw aS aV aT : Nat → Nat) (σ : Sg) (J : Js) (τ : Sg) (c1 : Nat) (ov : Option Nat) (hc : c1 = 87 ∨ c1 = 66 ∨ c1 = 80 ∨ c1 = 86 ∨ c1 = 78 ∨ c1 = 82 ∨ c1 = 77 ∨ c1 = 84 ∨ c1 = 72) (hv : ∀ v, ov = some v → v ≤ 999) (hR : RTc τ J) (h8 : s_n τ ≤ 8) : MRC l yX2_canStand qX2_canStand 4 [.ref (ad 8), .int (nI (c1)), .int (oI (ov))] D cy (cw cy ad aw σ J) aw aS aV aT (bI (csB τ c1 ov)) := by
  refine Met.ofW (cc := cX2_canStand) (maxL := 4) (ret := (some .boolean)) (by decide) rfl ?_
  intro p e s m args below meth c s₁ B hml hv
  obtain ⟨rfl, hP, hK, hN, hC⟩ := hv
  have hx := B.exec
  have hb := B.bytes
  have hr := B.returns
  have hlocks := B.notSynchronized
  have hts : ∀ cq ∈ tg, cq.before ([.ref (ad 8), .int (nI (c1)), .int (oI (ov))] : List Value).toArray s = true := fun cq h => atoms_spec (ws := qX2_canStand) B.pre cq (List.mem_cons_of_mem _ h)
  have hown : s.vm.findClass RX2 = some m.cls := findClass_of_methodNamed B.named
  have hS : va_S (fun _ => False) s.heap s.heap [] := va_S.rf
  have hl := lv_entry ([.ref (ad 8), .int (nI (c1)), .int (oI (ov))]) (n := 4) (Nat.le_of_ble_eq_true rfl)
  rw [lg_entry_eq]
  generalize (lg_sl ([.ref (ad 8), .int (nI (c1)), .int (oI (ov))]) ++ List.replicate (4 - (lg_sl ([.ref (ad 8), .int (nI (c1)), .int (oI (ov))])).length) Slot.unset).toArray = ls at hl ⊢
  have hl : lv_has ls 4 [(0, .ref (ad 8)), (1, .int (nI (c1))), (2, .int (oI (ov)))] := hl
  have hwl := wc_lt τ h8
  have hP : va_P D vwCl (cw cy ad aw σ (ju_rf (ju_rh (ju_rt J (nI (s_n τ))) (nI (whN τ))) (nI (s_m τ)))) s.heap := by rw [← hR.eta]; exact hP
  rcases hc with rfl | rfl | rfl | rfl | rfl | rfl | rfl | rfl | rfl
  · refine lv_iload_n hx hb dX2_canStand_0 rfl (lv_at hl 1 rfl) ?_
    rcases ov with _ | v
    · have hl : lv_has ls 4 [(0, .ref (ad 8)), (1, .int (nI (87))), (2, .int (-1))] := hl
      refine lv_bipush (v := nI 84) hx hb dX2_canStand_1 (by decide) ?_
      refine lv_icmp_eq (tgt := 12) hx hb dX2_canStand_3 (by decide) (fun c => absurd c (by decide)) (fun _ => ?_)
      refine lv_iload_n hx hb dX2_canStand_6 rfl (lv_at hl 1 rfl) ?_
      refine lv_bipush (v := nI 72) hx hb dX2_canStand_7 (by decide) ?_
      refine lv_icmp_ne (tgt := 48) hx hb dX2_canStand_9 (by decide) (fun _ => ?_) (fun c => absurd c (by decide))
      refine va_ldcS hx hb hown hC.R dX2_canStand_48 ?_
      refine lv_iload_n hx hb dX2_canStand_50 rfl (lv_at hl 1 rfl) ?_
      refine kc_v (n := 1) (As := [.int (nI (87))]) (rest := []) ⟨hx, hb, hml, hown, hts⟩ (k_J0_indexOf_0f7a4 l aw aS aV aT 17 87 (by decide) (by omega) (by decide)) gvX2_147 (by decide +kernel) ⟨Nat.le_of_ble_eq_true rfl, Nat.le_of_ble_eq_true rfl⟩ hC hS (hC.srecv (by decide) hS) rfl hl.1 rfl (Nat.le_of_ble_eq_true rfl) dX2_canStand_51 ⟨Nat.zero_le _, Nat.zero_le _⟩ ?_
      refine ln_eq (show (ixI 17 87) = (nI (0)) from by decide +kernel) ?_
      refine lv_istore_n (lv' := [(3, .int (nI (0))), (0, .ref (ad 8)), (1, .int (nI (87))), (2, .int (-1))]) hx hb dX2_canStand_54 rfl hl (by decide) rfl (fun ls hl => ?_)
      refine lv_iload_n hx hb dX2_canStand_55 rfl (lv_at hl 0 rfl) ?_
      refine ln_if_lt (tgt := 89) hx hb dX2_canStand_56 (by decide) (by omega) ?_
      refine lv_iload_n hx hb dX2_canStand_59 rfl (lv_at hl 0 rfl) ?_
      refine va_gets hx hb hC.2.2.2.2.1.1 hS hown (hts _ flX2_150) (fun _ h => h) dX2_canStand_60 ?_
      refine va_tlen (v := (nI (7))) hx hb hC.2.2.2.2.1.2 hS rfl dX2_canStand_63 ?_
      refine lv_icmp_ge (tgt := 89) hx hb dX2_canStand_64 (by decide) (fun c => absurd c (by decide)) (fun _ => ?_)
      refine lv_iload_n hx hb dX2_canStand_67 rfl (lv_at hl 3 rfl) ?_
      refine va_gets hx hb hC.2.2.2.2.1.1 hS hown (hts _ flX2_150) (fun _ h => h) dX2_canStand_68 ?_
      refine lv_iload_n hx hb dX2_canStand_71 rfl (lv_at hl 0 rfl) ?_
      refine lk_ti (v := .int (nI (1))) hx hb hC.2.2.2.2.1.2 hS (by decide) (by decide) rfl dX2_canStand_72 ?_
      refine lv_icmp_lt (tgt := 89) hx hb dX2_canStand_73 (by decide) (fun _ => ?_) (fun c => absurd (by decide) c)
      refine lv_iconst (v := nI 0) hx hb dX2_canStand_89 (by decide) ?_
      refine ln_eq bI_f.symm ?_
      exact rt_z hx hb hr hlocks (rfl) dX2_canStand_90
    · have hl : lv_has ls 4 [(0, .ref (ad 8)), (1, .int (nI (87))), (2, .int (nI (v)))] := hl
      have hv9 := hv v rfl
      refine lv_bipush (v := nI 84) hx hb dX2_canStand_1 (by decide) ?_
      refine lv_icmp_eq (tgt := 12) hx hb dX2_canStand_3 (by decide) (fun c => absurd c (by decide)) (fun _ => ?_)
      refine lv_iload_n hx hb dX2_canStand_6 rfl (lv_at hl 1 rfl) ?_
      refine lv_bipush (v := nI 72) hx hb dX2_canStand_7 (by decide) ?_
      refine lv_icmp_ne (tgt := 48) hx hb dX2_canStand_9 (by decide) (fun _ => ?_) (fun c => absurd c (by decide))
      refine va_ldcS hx hb hown hC.R dX2_canStand_48 ?_
      refine lv_iload_n hx hb dX2_canStand_50 rfl (lv_at hl 1 rfl) ?_
      refine kc_v (n := 1) (As := [.int (nI (87))]) (rest := []) ⟨hx, hb, hml, hown, hts⟩ (k_J0_indexOf_0f7a4 l aw aS aV aT 17 87 (by decide) (by omega) (by decide)) gvX2_147 (by decide +kernel) ⟨Nat.le_of_ble_eq_true rfl, Nat.le_of_ble_eq_true rfl⟩ hC hS (hC.srecv (by decide) hS) rfl hl.1 rfl (Nat.le_of_ble_eq_true rfl) dX2_canStand_51 ⟨Nat.zero_le _, Nat.zero_le _⟩ ?_
      refine ln_eq (show (ixI 17 87) = (nI (0)) from by decide +kernel) ?_
      refine lv_istore_n (lv' := [(3, .int (nI (0))), (0, .ref (ad 8)), (1, .int (nI (87))), (2, .int (nI (v)))]) hx hb dX2_canStand_54 rfl hl (by decide) rfl (fun ls hl => ?_)
      refine lv_iload_n hx hb dX2_canStand_55 rfl (lv_at hl 0 rfl) ?_
      refine ln_if_lt (tgt := 89) hx hb dX2_canStand_56 (by decide) (by omega) ?_
      refine lv_iload_n hx hb dX2_canStand_59 rfl (lv_at hl 0 rfl) ?_
      refine va_gets hx hb hC.2.2.2.2.1.1 hS hown (hts _ flX2_150) (fun _ h => h) dX2_canStand_60 ?_
      refine va_tlen (v := (nI (7))) hx hb hC.2.2.2.2.1.2 hS rfl dX2_canStand_63 ?_
      refine lv_icmp_ge (tgt := 89) hx hb dX2_canStand_64 (by decide) (fun c => absurd c (by decide)) (fun _ => ?_)
      refine lv_iload_n hx hb dX2_canStand_67 rfl (lv_at hl 3 rfl) ?_
      refine va_gets hx hb hC.2.2.2.2.1.1 hS hown (hts _ flX2_150) (fun _ h => h) dX2_canStand_68 ?_
      refine lv_iload_n hx hb dX2_canStand_71 rfl (lv_at hl 0 rfl) ?_
      refine lk_ti (v := .int (nI (1))) hx hb hC.2.2.2.2.1.2 hS (by decide) (by decide) rfl dX2_canStand_72 ?_
      refine ln_icmp_lt (tgt := 89) hx hb dX2_canStand_73 (by decide) (by omega) (by omega) (fun c73 => ?_) (fun c73 => ?_)
      · refine lv_iconst (v := nI 0) hx hb dX2_canStand_89 (by decide) ?_
        refine ln_eq bI_f.symm ?_
        exact rt_z hx hb hr hlocks ((show slC τ 87 v = false from (congrFun slC_87 v).trans (decide_eq_false (by omega))).symm) dX2_canStand_90
      · refine lv_iload_n hx hb dX2_canStand_76 rfl (lv_at hl 3 rfl) ?_
        refine va_gets hx hb hC.2.2.2.2.2.1.1 hS hown (hts _ flX2_153) (fun _ h => h) dX2_canStand_77 ?_
        refine lv_iload_n hx hb dX2_canStand_80 rfl (lv_at hl 0 rfl) ?_
        refine lk_ti (v := .int (nI (99))) hx hb hC.2.2.2.2.2.1.2 hS (by decide) (by decide) rfl dX2_canStand_81 ?_
        refine ln_icmp_gt (tgt := 89) hx hb dX2_canStand_82 (by decide) (by omega) (by omega) (fun c82 => ?_) (fun c82 => ?_)
        · refine lv_iconst (v := nI 0) hx hb dX2_canStand_89 (by decide) ?_
          refine ln_eq bI_f.symm ?_
          exact rt_z hx hb hr hlocks ((show slC τ 87 v = false from (congrFun slC_87 v).trans (decide_eq_false (by omega))).symm) dX2_canStand_90
        · refine lv_iconst (v := nI 1) hx hb dX2_canStand_85 (by decide) ?_
          refine lv_goto (tgt := 90) hx hb dX2_canStand_86 (by decide) ?_
          refine ln_eq bI_t.symm ?_
          exact rt_z hx hb hr hlocks ((show slC τ 87 v = true from (congrFun slC_87 v).trans (decide_eq_true (by omega))).symm) dX2_canStand_90
  · refine lv_iload_n hx hb dX2_canStand_0 rfl (lv_at hl 1 rfl) ?_
    rcases ov with _ | v
    · have hl : lv_has ls 4 [(0, .ref (ad 8)), (1, .int (nI (66))), (2, .int (-1))] := hl
      refine lv_bipush (v := nI 84) hx hb dX2_canStand_1 (by decide) ?_
      refine lv_icmp_eq (tgt := 12) hx hb dX2_canStand_3 (by decide) (fun c => absurd c (by decide)) (fun _ => ?_)
      refine lv_iload_n hx hb dX2_canStand_6 rfl (lv_at hl 1 rfl) ?_
      refine lv_bipush (v := nI 72) hx hb dX2_canStand_7 (by decide) ?_
      refine lv_icmp_ne (tgt := 48) hx hb dX2_canStand_9 (by decide) (fun _ => ?_) (fun c => absurd c (by decide))
      refine va_ldcS hx hb hown hC.R dX2_canStand_48 ?_
      refine lv_iload_n hx hb dX2_canStand_50 rfl (lv_at hl 1 rfl) ?_
      refine kc_v (n := 1) (As := [.int (nI (66))]) (rest := []) ⟨hx, hb, hml, hown, hts⟩ (k_J0_indexOf_0f7a4 l aw aS aV aT 17 66 (by decide) (by omega) (by decide)) gvX2_147 (by decide +kernel) ⟨Nat.le_of_ble_eq_true rfl, Nat.le_of_ble_eq_true rfl⟩ hC hS (hC.srecv (by decide) hS) rfl hl.1 rfl (Nat.le_of_ble_eq_true rfl) dX2_canStand_51 ⟨Nat.zero_le _, Nat.zero_le _⟩ ?_
      refine ln_eq (show (ixI 17 66) = (nI (1)) from by decide +kernel) ?_
      refine lv_istore_n (lv' := [(3, .int (nI (1))), (0, .ref (ad 8)), (1, .int (nI (66))), (2, .int (-1))]) hx hb dX2_canStand_54 rfl hl (by decide) rfl (fun ls hl => ?_)
      refine lv_iload_n hx hb dX2_canStand_55 rfl (lv_at hl 0 rfl) ?_
      refine ln_if_lt (tgt := 89) hx hb dX2_canStand_56 (by decide) (by omega) ?_
      refine lv_iload_n hx hb dX2_canStand_59 rfl (lv_at hl 0 rfl) ?_
      refine va_gets hx hb hC.2.2.2.2.1.1 hS hown (hts _ flX2_150) (fun _ h => h) dX2_canStand_60 ?_
      refine va_tlen (v := (nI (7))) hx hb hC.2.2.2.2.1.2 hS rfl dX2_canStand_63 ?_
      refine lv_icmp_ge (tgt := 89) hx hb dX2_canStand_64 (by decide) (fun c => absurd c (by decide)) (fun _ => ?_)
      refine lv_iload_n hx hb dX2_canStand_67 rfl (lv_at hl 3 rfl) ?_
      refine va_gets hx hb hC.2.2.2.2.1.1 hS hown (hts _ flX2_150) (fun _ h => h) dX2_canStand_68 ?_
      refine lv_iload_n hx hb dX2_canStand_71 rfl (lv_at hl 0 rfl) ?_
      refine lk_ti (v := .int (nI (0))) hx hb hC.2.2.2.2.1.2 hS (by decide) (by decide) rfl dX2_canStand_72 ?_
      refine lv_icmp_lt (tgt := 89) hx hb dX2_canStand_73 (by decide) (fun _ => ?_) (fun c => absurd (by decide) c)
      refine lv_iconst (v := nI 0) hx hb dX2_canStand_89 (by decide) ?_
      refine ln_eq bI_f.symm ?_
      exact rt_z hx hb hr hlocks (rfl) dX2_canStand_90
    · have hl : lv_has ls 4 [(0, .ref (ad 8)), (1, .int (nI (66))), (2, .int (nI (v)))] := hl
      have hv9 := hv v rfl
      refine lv_bipush (v := nI 84) hx hb dX2_canStand_1 (by decide) ?_
      refine lv_icmp_eq (tgt := 12) hx hb dX2_canStand_3 (by decide) (fun c => absurd c (by decide)) (fun _ => ?_)
      refine lv_iload_n hx hb dX2_canStand_6 rfl (lv_at hl 1 rfl) ?_
      refine lv_bipush (v := nI 72) hx hb dX2_canStand_7 (by decide) ?_
      refine lv_icmp_ne (tgt := 48) hx hb dX2_canStand_9 (by decide) (fun _ => ?_) (fun c => absurd c (by decide))
      refine va_ldcS hx hb hown hC.R dX2_canStand_48 ?_
      refine lv_iload_n hx hb dX2_canStand_50 rfl (lv_at hl 1 rfl) ?_
      refine kc_v (n := 1) (As := [.int (nI (66))]) (rest := []) ⟨hx, hb, hml, hown, hts⟩ (k_J0_indexOf_0f7a4 l aw aS aV aT 17 66 (by decide) (by omega) (by decide)) gvX2_147 (by decide +kernel) ⟨Nat.le_of_ble_eq_true rfl, Nat.le_of_ble_eq_true rfl⟩ hC hS (hC.srecv (by decide) hS) rfl hl.1 rfl (Nat.le_of_ble_eq_true rfl) dX2_canStand_51 ⟨Nat.zero_le _, Nat.zero_le _⟩ ?_
      refine ln_eq (show (ixI 17 66) = (nI (1)) from by decide +kernel) ?_
      refine lv_istore_n (lv' := [(3, .int (nI (1))), (0, .ref (ad 8)), (1, .int (nI (66))), (2, .int (nI (v)))]) hx hb dX2_canStand_54 rfl hl (by decide) rfl (fun ls hl => ?_)
      refine lv_iload_n hx hb dX2_canStand_55 rfl (lv_at hl 0 rfl) ?_
      refine ln_if_lt (tgt := 89) hx hb dX2_canStand_56 (by decide) (by omega) ?_
      refine lv_iload_n hx hb dX2_canStand_59 rfl (lv_at hl 0 rfl) ?_
      refine va_gets hx hb hC.2.2.2.2.1.1 hS hown (hts _ flX2_150) (fun _ h => h) dX2_canStand_60 ?_
      refine va_tlen (v := (nI (7))) hx hb hC.2.2.2.2.1.2 hS rfl dX2_canStand_63 ?_
      refine lv_icmp_ge (tgt := 89) hx hb dX2_canStand_64 (by decide) (fun c => absurd c (by decide)) (fun _ => ?_)
      refine lv_iload_n hx hb dX2_canStand_67 rfl (lv_at hl 3 rfl) ?_
      refine va_gets hx hb hC.2.2.2.2.1.1 hS hown (hts _ flX2_150) (fun _ h => h) dX2_canStand_68 ?_
      refine lv_iload_n hx hb dX2_canStand_71 rfl (lv_at hl 0 rfl) ?_
      refine lk_ti (v := .int (nI (0))) hx hb hC.2.2.2.2.1.2 hS (by decide) (by decide) rfl dX2_canStand_72 ?_
      refine ln_icmp_lt (tgt := 89) hx hb dX2_canStand_73 (by decide) (by omega) (by omega) (fun c73 => ?_) (fun c73 => ?_)
      · refine lv_iconst (v := nI 0) hx hb dX2_canStand_89 (by decide) ?_
        refine ln_eq bI_f.symm ?_
        exact rt_z hx hb hr hlocks ((show slC τ 66 v = false from (congrFun slC_66 v).trans (decide_eq_false (by omega))).symm) dX2_canStand_90
      · refine lv_iload_n hx hb dX2_canStand_76 rfl (lv_at hl 3 rfl) ?_
        refine va_gets hx hb hC.2.2.2.2.2.1.1 hS hown (hts _ flX2_153) (fun _ h => h) dX2_canStand_77 ?_
        refine lv_iload_n hx hb dX2_canStand_80 rfl (lv_at hl 0 rfl) ?_
        refine lk_ti (v := .int (nI (1))) hx hb hC.2.2.2.2.2.1.2 hS (by decide) (by decide) rfl dX2_canStand_81 ?_
        refine ln_icmp_gt (tgt := 89) hx hb dX2_canStand_82 (by decide) (by omega) (by omega) (fun c82 => ?_) (fun c82 => ?_)
        · refine lv_iconst (v := nI 0) hx hb dX2_canStand_89 (by decide) ?_
          refine ln_eq bI_f.symm ?_
          exact rt_z hx hb hr hlocks ((show slC τ 66 v = false from (congrFun slC_66 v).trans (decide_eq_false (by omega))).symm) dX2_canStand_90
        · refine lv_iconst (v := nI 1) hx hb dX2_canStand_85 (by decide) ?_
          refine lv_goto (tgt := 90) hx hb dX2_canStand_86 (by decide) ?_
          refine ln_eq bI_t.symm ?_
          exact rt_z hx hb hr hlocks ((show slC τ 66 v = true from (congrFun slC_66 v).trans (decide_eq_true (by omega))).symm) dX2_canStand_90
  · refine lv_iload_n hx hb dX2_canStand_0 rfl (lv_at hl 1 rfl) ?_
    rcases ov with _ | v
    · have hl : lv_has ls 4 [(0, .ref (ad 8)), (1, .int (nI (80))), (2, .int (-1))] := hl
      refine lv_bipush (v := nI 84) hx hb dX2_canStand_1 (by decide) ?_
      refine lv_icmp_eq (tgt := 12) hx hb dX2_canStand_3 (by decide) (fun c => absurd c (by decide)) (fun _ => ?_)
      refine lv_iload_n hx hb dX2_canStand_6 rfl (lv_at hl 1 rfl) ?_
      refine lv_bipush (v := nI 72) hx hb dX2_canStand_7 (by decide) ?_
      refine lv_icmp_ne (tgt := 48) hx hb dX2_canStand_9 (by decide) (fun _ => ?_) (fun c => absurd c (by decide))
      refine va_ldcS hx hb hown hC.R dX2_canStand_48 ?_
      refine lv_iload_n hx hb dX2_canStand_50 rfl (lv_at hl 1 rfl) ?_
      refine kc_v (n := 1) (As := [.int (nI (80))]) (rest := []) ⟨hx, hb, hml, hown, hts⟩ (k_J0_indexOf_0f7a4 l aw aS aV aT 17 80 (by decide) (by omega) (by decide)) gvX2_147 (by decide +kernel) ⟨Nat.le_of_ble_eq_true rfl, Nat.le_of_ble_eq_true rfl⟩ hC hS (hC.srecv (by decide) hS) rfl hl.1 rfl (Nat.le_of_ble_eq_true rfl) dX2_canStand_51 ⟨Nat.zero_le _, Nat.zero_le _⟩ ?_
      refine ln_eq (show (ixI 17 80) = (nI (2)) from by decide +kernel) ?_
      refine lv_istore_n (lv' := [(3, .int (nI (2))), (0, .ref (ad 8)), (1, .int (nI (80))), (2, .int (-1))]) hx hb dX2_canStand_54 rfl hl (by decide) rfl (fun ls hl => ?_)
      refine lv_iload_n hx hb dX2_canStand_55 rfl (lv_at hl 0 rfl) ?_
      refine ln_if_lt (tgt := 89) hx hb dX2_canStand_56 (by decide) (by omega) ?_
      refine lv_iload_n hx hb dX2_canStand_59 rfl (lv_at hl 0 rfl) ?_
      refine va_gets hx hb hC.2.2.2.2.1.1 hS hown (hts _ flX2_150) (fun _ h => h) dX2_canStand_60 ?_
      refine va_tlen (v := (nI (7))) hx hb hC.2.2.2.2.1.2 hS rfl dX2_canStand_63 ?_
      refine lv_icmp_ge (tgt := 89) hx hb dX2_canStand_64 (by decide) (fun c => absurd c (by decide)) (fun _ => ?_)
      refine lv_iload_n hx hb dX2_canStand_67 rfl (lv_at hl 3 rfl) ?_
      refine va_gets hx hb hC.2.2.2.2.1.1 hS hown (hts _ flX2_150) (fun _ h => h) dX2_canStand_68 ?_
      refine lv_iload_n hx hb dX2_canStand_71 rfl (lv_at hl 0 rfl) ?_
      refine lk_ti (v := .int (nI (0))) hx hb hC.2.2.2.2.1.2 hS (by decide) (by decide) rfl dX2_canStand_72 ?_
      refine lv_icmp_lt (tgt := 89) hx hb dX2_canStand_73 (by decide) (fun _ => ?_) (fun c => absurd (by decide) c)
      refine lv_iconst (v := nI 0) hx hb dX2_canStand_89 (by decide) ?_
      refine ln_eq bI_f.symm ?_
      exact rt_z hx hb hr hlocks (rfl) dX2_canStand_90
    · have hl : lv_has ls 4 [(0, .ref (ad 8)), (1, .int (nI (80))), (2, .int (nI (v)))] := hl
      have hv9 := hv v rfl
      refine lv_bipush (v := nI 84) hx hb dX2_canStand_1 (by decide) ?_
      refine lv_icmp_eq (tgt := 12) hx hb dX2_canStand_3 (by decide) (fun c => absurd c (by decide)) (fun _ => ?_)
      refine lv_iload_n hx hb dX2_canStand_6 rfl (lv_at hl 1 rfl) ?_
      refine lv_bipush (v := nI 72) hx hb dX2_canStand_7 (by decide) ?_
      refine lv_icmp_ne (tgt := 48) hx hb dX2_canStand_9 (by decide) (fun _ => ?_) (fun c => absurd c (by decide))
      refine va_ldcS hx hb hown hC.R dX2_canStand_48 ?_
      refine lv_iload_n hx hb dX2_canStand_50 rfl (lv_at hl 1 rfl) ?_
      refine kc_v (n := 1) (As := [.int (nI (80))]) (rest := []) ⟨hx, hb, hml, hown, hts⟩ (k_J0_indexOf_0f7a4 l aw aS aV aT 17 80 (by decide) (by omega) (by decide)) gvX2_147 (by decide +kernel) ⟨Nat.le_of_ble_eq_true rfl, Nat.le_of_ble_eq_true rfl⟩ hC hS (hC.srecv (by decide) hS) rfl hl.1 rfl (Nat.le_of_ble_eq_true rfl) dX2_canStand_51 ⟨Nat.zero_le _, Nat.zero_le _⟩ ?_
      refine ln_eq (show (ixI 17 80) = (nI (2)) from by decide +kernel) ?_
      refine lv_istore_n (lv' := [(3, .int (nI (2))), (0, .ref (ad 8)), (1, .int (nI (80))), (2, .int (nI (v)))]) hx hb dX2_canStand_54 rfl hl (by decide) rfl (fun ls hl => ?_)
      refine lv_iload_n hx hb dX2_canStand_55 rfl (lv_at hl 0 rfl) ?_
      refine ln_if_lt (tgt := 89) hx hb dX2_canStand_56 (by decide) (by omega) ?_
      refine lv_iload_n hx hb dX2_canStand_59 rfl (lv_at hl 0 rfl) ?_
      refine va_gets hx hb hC.2.2.2.2.1.1 hS hown (hts _ flX2_150) (fun _ h => h) dX2_canStand_60 ?_
      refine va_tlen (v := (nI (7))) hx hb hC.2.2.2.2.1.2 hS rfl dX2_canStand_63 ?_
      refine lv_icmp_ge (tgt := 89) hx hb dX2_canStand_64 (by decide) (fun c => absurd c (by decide)) (fun _ => ?_)
      refine lv_iload_n hx hb dX2_canStand_67 rfl (lv_at hl 3 rfl) ?_
      refine va_gets hx hb hC.2.2.2.2.1.1 hS hown (hts _ flX2_150) (fun _ h => h) dX2_canStand_68 ?_
      refine lv_iload_n hx hb dX2_canStand_71 rfl (lv_at hl 0 rfl) ?_
      refine lk_ti (v := .int (nI (0))) hx hb hC.2.2.2.2.1.2 hS (by decide) (by decide) rfl dX2_canStand_72 ?_
      refine ln_icmp_lt (tgt := 89) hx hb dX2_canStand_73 (by decide) (by omega) (by omega) (fun c73 => ?_) (fun c73 => ?_)
      · refine lv_iconst (v := nI 0) hx hb dX2_canStand_89 (by decide) ?_
        refine ln_eq bI_f.symm ?_
        exact rt_z hx hb hr hlocks ((show slC τ 80 v = false from (congrFun slC_80 v).trans (decide_eq_false (by omega))).symm) dX2_canStand_90
      · refine lv_iload_n hx hb dX2_canStand_76 rfl (lv_at hl 3 rfl) ?_
        refine va_gets hx hb hC.2.2.2.2.2.1.1 hS hown (hts _ flX2_153) (fun _ h => h) dX2_canStand_77 ?_
        refine lv_iload_n hx hb dX2_canStand_80 rfl (lv_at hl 0 rfl) ?_
        refine lk_ti (v := .int (nI (9))) hx hb hC.2.2.2.2.2.1.2 hS (by decide) (by decide) rfl dX2_canStand_81 ?_
        refine ln_icmp_gt (tgt := 89) hx hb dX2_canStand_82 (by decide) (by omega) (by omega) (fun c82 => ?_) (fun c82 => ?_)
        · refine lv_iconst (v := nI 0) hx hb dX2_canStand_89 (by decide) ?_
          refine ln_eq bI_f.symm ?_
          exact rt_z hx hb hr hlocks ((show slC τ 80 v = false from (congrFun slC_80 v).trans (decide_eq_false (by omega))).symm) dX2_canStand_90
        · refine lv_iconst (v := nI 1) hx hb dX2_canStand_85 (by decide) ?_
          refine lv_goto (tgt := 90) hx hb dX2_canStand_86 (by decide) ?_
          refine ln_eq bI_t.symm ?_
          exact rt_z hx hb hr hlocks ((show slC τ 80 v = true from (congrFun slC_80 v).trans (decide_eq_true (by omega))).symm) dX2_canStand_90
  · refine lv_iload_n hx hb dX2_canStand_0 rfl (lv_at hl 1 rfl) ?_
    rcases ov with _ | v
    · have hl : lv_has ls 4 [(0, .ref (ad 8)), (1, .int (nI (86))), (2, .int (-1))] := hl
      refine lv_bipush (v := nI 84) hx hb dX2_canStand_1 (by decide) ?_
      refine lv_icmp_eq (tgt := 12) hx hb dX2_canStand_3 (by decide) (fun c => absurd c (by decide)) (fun _ => ?_)
      refine lv_iload_n hx hb dX2_canStand_6 rfl (lv_at hl 1 rfl) ?_
      refine lv_bipush (v := nI 72) hx hb dX2_canStand_7 (by decide) ?_
      refine lv_icmp_ne (tgt := 48) hx hb dX2_canStand_9 (by decide) (fun _ => ?_) (fun c => absurd c (by decide))
      refine va_ldcS hx hb hown hC.R dX2_canStand_48 ?_
      refine lv_iload_n hx hb dX2_canStand_50 rfl (lv_at hl 1 rfl) ?_
      refine kc_v (n := 1) (As := [.int (nI (86))]) (rest := []) ⟨hx, hb, hml, hown, hts⟩ (k_J0_indexOf_0f7a4 l aw aS aV aT 17 86 (by decide) (by omega) (by decide)) gvX2_147 (by decide +kernel) ⟨Nat.le_of_ble_eq_true rfl, Nat.le_of_ble_eq_true rfl⟩ hC hS (hC.srecv (by decide) hS) rfl hl.1 rfl (Nat.le_of_ble_eq_true rfl) dX2_canStand_51 ⟨Nat.zero_le _, Nat.zero_le _⟩ ?_
      refine ln_eq (show (ixI 17 86) = (nI (3)) from by decide +kernel) ?_
      refine lv_istore_n (lv' := [(3, .int (nI (3))), (0, .ref (ad 8)), (1, .int (nI (86))), (2, .int (-1))]) hx hb dX2_canStand_54 rfl hl (by decide) rfl (fun ls hl => ?_)
      refine lv_iload_n hx hb dX2_canStand_55 rfl (lv_at hl 0 rfl) ?_
      refine ln_if_lt (tgt := 89) hx hb dX2_canStand_56 (by decide) (by omega) ?_
      refine lv_iload_n hx hb dX2_canStand_59 rfl (lv_at hl 0 rfl) ?_
      refine va_gets hx hb hC.2.2.2.2.1.1 hS hown (hts _ flX2_150) (fun _ h => h) dX2_canStand_60 ?_
      refine va_tlen (v := (nI (7))) hx hb hC.2.2.2.2.1.2 hS rfl dX2_canStand_63 ?_
      refine lv_icmp_ge (tgt := 89) hx hb dX2_canStand_64 (by decide) (fun c => absurd c (by decide)) (fun _ => ?_)
      refine lv_iload_n hx hb dX2_canStand_67 rfl (lv_at hl 3 rfl) ?_
      refine va_gets hx hb hC.2.2.2.2.1.1 hS hown (hts _ flX2_150) (fun _ h => h) dX2_canStand_68 ?_
      refine lv_iload_n hx hb dX2_canStand_71 rfl (lv_at hl 0 rfl) ?_
      refine lk_ti (v := .int (nI (0))) hx hb hC.2.2.2.2.1.2 hS (by decide) (by decide) rfl dX2_canStand_72 ?_
      refine lv_icmp_lt (tgt := 89) hx hb dX2_canStand_73 (by decide) (fun _ => ?_) (fun c => absurd (by decide) c)
      refine lv_iconst (v := nI 0) hx hb dX2_canStand_89 (by decide) ?_
      refine ln_eq bI_f.symm ?_
      exact rt_z hx hb hr hlocks (rfl) dX2_canStand_90
    · have hl : lv_has ls 4 [(0, .ref (ad 8)), (1, .int (nI (86))), (2, .int (nI (v)))] := hl
      have hv9 := hv v rfl
      refine lv_bipush (v := nI 84) hx hb dX2_canStand_1 (by decide) ?_
      refine lv_icmp_eq (tgt := 12) hx hb dX2_canStand_3 (by decide) (fun c => absurd c (by decide)) (fun _ => ?_)
      refine lv_iload_n hx hb dX2_canStand_6 rfl (lv_at hl 1 rfl) ?_
      refine lv_bipush (v := nI 72) hx hb dX2_canStand_7 (by decide) ?_
      refine lv_icmp_ne (tgt := 48) hx hb dX2_canStand_9 (by decide) (fun _ => ?_) (fun c => absurd c (by decide))
      refine va_ldcS hx hb hown hC.R dX2_canStand_48 ?_
      refine lv_iload_n hx hb dX2_canStand_50 rfl (lv_at hl 1 rfl) ?_
      refine kc_v (n := 1) (As := [.int (nI (86))]) (rest := []) ⟨hx, hb, hml, hown, hts⟩ (k_J0_indexOf_0f7a4 l aw aS aV aT 17 86 (by decide) (by omega) (by decide)) gvX2_147 (by decide +kernel) ⟨Nat.le_of_ble_eq_true rfl, Nat.le_of_ble_eq_true rfl⟩ hC hS (hC.srecv (by decide) hS) rfl hl.1 rfl (Nat.le_of_ble_eq_true rfl) dX2_canStand_51 ⟨Nat.zero_le _, Nat.zero_le _⟩ ?_
      refine ln_eq (show (ixI 17 86) = (nI (3)) from by decide +kernel) ?_
      refine lv_istore_n (lv' := [(3, .int (nI (3))), (0, .ref (ad 8)), (1, .int (nI (86))), (2, .int (nI (v)))]) hx hb dX2_canStand_54 rfl hl (by decide) rfl (fun ls hl => ?_)
      refine lv_iload_n hx hb dX2_canStand_55 rfl (lv_at hl 0 rfl) ?_
      refine ln_if_lt (tgt := 89) hx hb dX2_canStand_56 (by decide) (by omega) ?_
      refine lv_iload_n hx hb dX2_canStand_59 rfl (lv_at hl 0 rfl) ?_
      refine va_gets hx hb hC.2.2.2.2.1.1 hS hown (hts _ flX2_150) (fun _ h => h) dX2_canStand_60 ?_
      refine va_tlen (v := (nI (7))) hx hb hC.2.2.2.2.1.2 hS rfl dX2_canStand_63 ?_
      refine lv_icmp_ge (tgt := 89) hx hb dX2_canStand_64 (by decide) (fun c => absurd c (by decide)) (fun _ => ?_)
      refine lv_iload_n hx hb dX2_canStand_67 rfl (lv_at hl 3 rfl) ?_
      refine va_gets hx hb hC.2.2.2.2.1.1 hS hown (hts _ flX2_150) (fun _ h => h) dX2_canStand_68 ?_
      refine lv_iload_n hx hb dX2_canStand_71 rfl (lv_at hl 0 rfl) ?_
      refine lk_ti (v := .int (nI (0))) hx hb hC.2.2.2.2.1.2 hS (by decide) (by decide) rfl dX2_canStand_72 ?_
      refine ln_icmp_lt (tgt := 89) hx hb dX2_canStand_73 (by decide) (by omega) (by omega) (fun c73 => ?_) (fun c73 => ?_)
      · refine lv_iconst (v := nI 0) hx hb dX2_canStand_89 (by decide) ?_
        refine ln_eq bI_f.symm ?_
        exact rt_z hx hb hr hlocks ((show slC τ 86 v = false from (congrFun slC_86 v).trans (decide_eq_false (by omega))).symm) dX2_canStand_90
      · refine lv_iload_n hx hb dX2_canStand_76 rfl (lv_at hl 3 rfl) ?_
        refine va_gets hx hb hC.2.2.2.2.2.1.1 hS hown (hts _ flX2_153) (fun _ h => h) dX2_canStand_77 ?_
        refine lv_iload_n hx hb dX2_canStand_80 rfl (lv_at hl 0 rfl) ?_
        refine lk_ti (v := .int (nI (9))) hx hb hC.2.2.2.2.2.1.2 hS (by decide) (by decide) rfl dX2_canStand_81 ?_
        refine ln_icmp_gt (tgt := 89) hx hb dX2_canStand_82 (by decide) (by omega) (by omega) (fun c82 => ?_) (fun c82 => ?_)
        · refine lv_iconst (v := nI 0) hx hb dX2_canStand_89 (by decide) ?_
          refine ln_eq bI_f.symm ?_
          exact rt_z hx hb hr hlocks ((show slC τ 86 v = false from (congrFun slC_86 v).trans (decide_eq_false (by omega))).symm) dX2_canStand_90
        · refine lv_iconst (v := nI 1) hx hb dX2_canStand_85 (by decide) ?_
          refine lv_goto (tgt := 90) hx hb dX2_canStand_86 (by decide) ?_
          refine ln_eq bI_t.symm ?_
          exact rt_z hx hb hr hlocks ((show slC τ 86 v = true from (congrFun slC_86 v).trans (decide_eq_true (by omega))).symm) dX2_canStand_90
  · refine lv_iload_n hx hb dX2_canStand_0 rfl (lv_at hl 1 rfl) ?_
    rcases ov with _ | v
    · have hl : lv_has ls 4 [(0, .ref (ad 8)), (1, .int (nI (78))), (2, .int (-1))] := hl
      refine lv_bipush (v := nI 84) hx hb dX2_canStand_1 (by decide) ?_
      refine lv_icmp_eq (tgt := 12) hx hb dX2_canStand_3 (by decide) (fun c => absurd c (by decide)) (fun _ => ?_)
      refine lv_iload_n hx hb dX2_canStand_6 rfl (lv_at hl 1 rfl) ?_
      refine lv_bipush (v := nI 72) hx hb dX2_canStand_7 (by decide) ?_
      refine lv_icmp_ne (tgt := 48) hx hb dX2_canStand_9 (by decide) (fun _ => ?_) (fun c => absurd c (by decide))
      refine va_ldcS hx hb hown hC.R dX2_canStand_48 ?_
      refine lv_iload_n hx hb dX2_canStand_50 rfl (lv_at hl 1 rfl) ?_
      refine kc_v (n := 1) (As := [.int (nI (78))]) (rest := []) ⟨hx, hb, hml, hown, hts⟩ (k_J0_indexOf_0f7a4 l aw aS aV aT 17 78 (by decide) (by omega) (by decide)) gvX2_147 (by decide +kernel) ⟨Nat.le_of_ble_eq_true rfl, Nat.le_of_ble_eq_true rfl⟩ hC hS (hC.srecv (by decide) hS) rfl hl.1 rfl (Nat.le_of_ble_eq_true rfl) dX2_canStand_51 ⟨Nat.zero_le _, Nat.zero_le _⟩ ?_
      refine ln_eq (show (ixI 17 78) = (nI (4)) from by decide +kernel) ?_
      refine lv_istore_n (lv' := [(3, .int (nI (4))), (0, .ref (ad 8)), (1, .int (nI (78))), (2, .int (-1))]) hx hb dX2_canStand_54 rfl hl (by decide) rfl (fun ls hl => ?_)
      refine lv_iload_n hx hb dX2_canStand_55 rfl (lv_at hl 0 rfl) ?_
      refine ln_if_lt (tgt := 89) hx hb dX2_canStand_56 (by decide) (by omega) ?_
      refine lv_iload_n hx hb dX2_canStand_59 rfl (lv_at hl 0 rfl) ?_
      refine va_gets hx hb hC.2.2.2.2.1.1 hS hown (hts _ flX2_150) (fun _ h => h) dX2_canStand_60 ?_
      refine va_tlen (v := (nI (7))) hx hb hC.2.2.2.2.1.2 hS rfl dX2_canStand_63 ?_
      refine lv_icmp_ge (tgt := 89) hx hb dX2_canStand_64 (by decide) (fun c => absurd c (by decide)) (fun _ => ?_)
      refine lv_iload_n hx hb dX2_canStand_67 rfl (lv_at hl 3 rfl) ?_
      refine va_gets hx hb hC.2.2.2.2.1.1 hS hown (hts _ flX2_150) (fun _ h => h) dX2_canStand_68 ?_
      refine lv_iload_n hx hb dX2_canStand_71 rfl (lv_at hl 0 rfl) ?_
      refine lk_ti (v := .int (nI (1))) hx hb hC.2.2.2.2.1.2 hS (by decide) (by decide) rfl dX2_canStand_72 ?_
      refine lv_icmp_lt (tgt := 89) hx hb dX2_canStand_73 (by decide) (fun _ => ?_) (fun c => absurd (by decide) c)
      refine lv_iconst (v := nI 0) hx hb dX2_canStand_89 (by decide) ?_
      refine ln_eq bI_f.symm ?_
      exact rt_z hx hb hr hlocks (rfl) dX2_canStand_90
    · have hl : lv_has ls 4 [(0, .ref (ad 8)), (1, .int (nI (78))), (2, .int (nI (v)))] := hl
      have hv9 := hv v rfl
      refine lv_bipush (v := nI 84) hx hb dX2_canStand_1 (by decide) ?_
      refine lv_icmp_eq (tgt := 12) hx hb dX2_canStand_3 (by decide) (fun c => absurd c (by decide)) (fun _ => ?_)
      refine lv_iload_n hx hb dX2_canStand_6 rfl (lv_at hl 1 rfl) ?_
      refine lv_bipush (v := nI 72) hx hb dX2_canStand_7 (by decide) ?_
      refine lv_icmp_ne (tgt := 48) hx hb dX2_canStand_9 (by decide) (fun _ => ?_) (fun c => absurd c (by decide))
      refine va_ldcS hx hb hown hC.R dX2_canStand_48 ?_
      refine lv_iload_n hx hb dX2_canStand_50 rfl (lv_at hl 1 rfl) ?_
      refine kc_v (n := 1) (As := [.int (nI (78))]) (rest := []) ⟨hx, hb, hml, hown, hts⟩ (k_J0_indexOf_0f7a4 l aw aS aV aT 17 78 (by decide) (by omega) (by decide)) gvX2_147 (by decide +kernel) ⟨Nat.le_of_ble_eq_true rfl, Nat.le_of_ble_eq_true rfl⟩ hC hS (hC.srecv (by decide) hS) rfl hl.1 rfl (Nat.le_of_ble_eq_true rfl) dX2_canStand_51 ⟨Nat.zero_le _, Nat.zero_le _⟩ ?_
      refine ln_eq (show (ixI 17 78) = (nI (4)) from by decide +kernel) ?_
      refine lv_istore_n (lv' := [(3, .int (nI (4))), (0, .ref (ad 8)), (1, .int (nI (78))), (2, .int (nI (v)))]) hx hb dX2_canStand_54 rfl hl (by decide) rfl (fun ls hl => ?_)
      refine lv_iload_n hx hb dX2_canStand_55 rfl (lv_at hl 0 rfl) ?_
      refine ln_if_lt (tgt := 89) hx hb dX2_canStand_56 (by decide) (by omega) ?_
      refine lv_iload_n hx hb dX2_canStand_59 rfl (lv_at hl 0 rfl) ?_
      refine va_gets hx hb hC.2.2.2.2.1.1 hS hown (hts _ flX2_150) (fun _ h => h) dX2_canStand_60 ?_
      refine va_tlen (v := (nI (7))) hx hb hC.2.2.2.2.1.2 hS rfl dX2_canStand_63 ?_
      refine lv_icmp_ge (tgt := 89) hx hb dX2_canStand_64 (by decide) (fun c => absurd c (by decide)) (fun _ => ?_)
      refine lv_iload_n hx hb dX2_canStand_67 rfl (lv_at hl 3 rfl) ?_
      refine va_gets hx hb hC.2.2.2.2.1.1 hS hown (hts _ flX2_150) (fun _ h => h) dX2_canStand_68 ?_
      refine lv_iload_n hx hb dX2_canStand_71 rfl (lv_at hl 0 rfl) ?_
      refine lk_ti (v := .int (nI (1))) hx hb hC.2.2.2.2.1.2 hS (by decide) (by decide) rfl dX2_canStand_72 ?_
      refine ln_icmp_lt (tgt := 89) hx hb dX2_canStand_73 (by decide) (by omega) (by omega) (fun c73 => ?_) (fun c73 => ?_)
      · refine lv_iconst (v := nI 0) hx hb dX2_canStand_89 (by decide) ?_
        refine ln_eq bI_f.symm ?_
        exact rt_z hx hb hr hlocks ((show slC τ 78 v = false from (congrFun slC_78 v).trans (decide_eq_false (by omega))).symm) dX2_canStand_90
      · refine lv_iload_n hx hb dX2_canStand_76 rfl (lv_at hl 3 rfl) ?_
        refine va_gets hx hb hC.2.2.2.2.2.1.1 hS hown (hts _ flX2_153) (fun _ h => h) dX2_canStand_77 ?_
        refine lv_iload_n hx hb dX2_canStand_80 rfl (lv_at hl 0 rfl) ?_
        refine lk_ti (v := .int (nI (999))) hx hb hC.2.2.2.2.2.1.2 hS (by decide) (by decide) rfl dX2_canStand_81 ?_
        refine ln_icmp_gt (tgt := 89) hx hb dX2_canStand_82 (by decide) (by omega) (by omega) (fun c82 => ?_) (fun c82 => ?_)
        · refine lv_iconst (v := nI 0) hx hb dX2_canStand_89 (by decide) ?_
          refine ln_eq bI_f.symm ?_
          exact rt_z hx hb hr hlocks ((show slC τ 78 v = false from (congrFun slC_78 v).trans (decide_eq_false (by omega))).symm) dX2_canStand_90
        · refine lv_iconst (v := nI 1) hx hb dX2_canStand_85 (by decide) ?_
          refine lv_goto (tgt := 90) hx hb dX2_canStand_86 (by decide) ?_
          refine ln_eq bI_t.symm ?_
          exact rt_z hx hb hr hlocks ((show slC τ 78 v = true from (congrFun slC_78 v).trans (decide_eq_true (by omega))).symm) dX2_canStand_90
  · refine lv_iload_n hx hb dX2_canStand_0 rfl (lv_at hl 1 rfl) ?_
    rcases ov with _ | v
    · have hl : lv_has ls 4 [(0, .ref (ad 8)), (1, .int (nI (82))), (2, .int (-1))] := hl
      refine lv_bipush (v := nI 84) hx hb dX2_canStand_1 (by decide) ?_
      refine lv_icmp_eq (tgt := 12) hx hb dX2_canStand_3 (by decide) (fun c => absurd c (by decide)) (fun _ => ?_)
      refine lv_iload_n hx hb dX2_canStand_6 rfl (lv_at hl 1 rfl) ?_
      refine lv_bipush (v := nI 72) hx hb dX2_canStand_7 (by decide) ?_
      refine lv_icmp_ne (tgt := 48) hx hb dX2_canStand_9 (by decide) (fun _ => ?_) (fun c => absurd c (by decide))
      refine va_ldcS hx hb hown hC.R dX2_canStand_48 ?_
      refine lv_iload_n hx hb dX2_canStand_50 rfl (lv_at hl 1 rfl) ?_
      refine kc_v (n := 1) (As := [.int (nI (82))]) (rest := []) ⟨hx, hb, hml, hown, hts⟩ (k_J0_indexOf_0f7a4 l aw aS aV aT 17 82 (by decide) (by omega) (by decide)) gvX2_147 (by decide +kernel) ⟨Nat.le_of_ble_eq_true rfl, Nat.le_of_ble_eq_true rfl⟩ hC hS (hC.srecv (by decide) hS) rfl hl.1 rfl (Nat.le_of_ble_eq_true rfl) dX2_canStand_51 ⟨Nat.zero_le _, Nat.zero_le _⟩ ?_
      refine ln_eq (show (ixI 17 82) = (nI (5)) from by decide +kernel) ?_
      refine lv_istore_n (lv' := [(3, .int (nI (5))), (0, .ref (ad 8)), (1, .int (nI (82))), (2, .int (-1))]) hx hb dX2_canStand_54 rfl hl (by decide) rfl (fun ls hl => ?_)
      refine lv_iload_n hx hb dX2_canStand_55 rfl (lv_at hl 0 rfl) ?_
      refine ln_if_lt (tgt := 89) hx hb dX2_canStand_56 (by decide) (by omega) ?_
      refine lv_iload_n hx hb dX2_canStand_59 rfl (lv_at hl 0 rfl) ?_
      refine va_gets hx hb hC.2.2.2.2.1.1 hS hown (hts _ flX2_150) (fun _ h => h) dX2_canStand_60 ?_
      refine va_tlen (v := (nI (7))) hx hb hC.2.2.2.2.1.2 hS rfl dX2_canStand_63 ?_
      refine lv_icmp_ge (tgt := 89) hx hb dX2_canStand_64 (by decide) (fun c => absurd c (by decide)) (fun _ => ?_)
      refine lv_iload_n hx hb dX2_canStand_67 rfl (lv_at hl 3 rfl) ?_
      refine va_gets hx hb hC.2.2.2.2.1.1 hS hown (hts _ flX2_150) (fun _ h => h) dX2_canStand_68 ?_
      refine lv_iload_n hx hb dX2_canStand_71 rfl (lv_at hl 0 rfl) ?_
      refine lk_ti (v := .int (nI (1))) hx hb hC.2.2.2.2.1.2 hS (by decide) (by decide) rfl dX2_canStand_72 ?_
      refine lv_icmp_lt (tgt := 89) hx hb dX2_canStand_73 (by decide) (fun _ => ?_) (fun c => absurd (by decide) c)
      refine lv_iconst (v := nI 0) hx hb dX2_canStand_89 (by decide) ?_
      refine ln_eq bI_f.symm ?_
      exact rt_z hx hb hr hlocks (rfl) dX2_canStand_90
    · have hl : lv_has ls 4 [(0, .ref (ad 8)), (1, .int (nI (82))), (2, .int (nI (v)))] := hl
      have hv9 := hv v rfl
      refine lv_bipush (v := nI 84) hx hb dX2_canStand_1 (by decide) ?_
      refine lv_icmp_eq (tgt := 12) hx hb dX2_canStand_3 (by decide) (fun c => absurd c (by decide)) (fun _ => ?_)
      refine lv_iload_n hx hb dX2_canStand_6 rfl (lv_at hl 1 rfl) ?_
      refine lv_bipush (v := nI 72) hx hb dX2_canStand_7 (by decide) ?_
      refine lv_icmp_ne (tgt := 48) hx hb dX2_canStand_9 (by decide) (fun _ => ?_) (fun c => absurd c (by decide))
      refine va_ldcS hx hb hown hC.R dX2_canStand_48 ?_
      refine lv_iload_n hx hb dX2_canStand_50 rfl (lv_at hl 1 rfl) ?_
      refine kc_v (n := 1) (As := [.int (nI (82))]) (rest := []) ⟨hx, hb, hml, hown, hts⟩ (k_J0_indexOf_0f7a4 l aw aS aV aT 17 82 (by decide) (by omega) (by decide)) gvX2_147 (by decide +kernel) ⟨Nat.le_of_ble_eq_true rfl, Nat.le_of_ble_eq_true rfl⟩ hC hS (hC.srecv (by decide) hS) rfl hl.1 rfl (Nat.le_of_ble_eq_true rfl) dX2_canStand_51 ⟨Nat.zero_le _, Nat.zero_le _⟩ ?_
      refine ln_eq (show (ixI 17 82) = (nI (5)) from by decide +kernel) ?_
      refine lv_istore_n (lv' := [(3, .int (nI (5))), (0, .ref (ad 8)), (1, .int (nI (82))), (2, .int (nI (v)))]) hx hb dX2_canStand_54 rfl hl (by decide) rfl (fun ls hl => ?_)
      refine lv_iload_n hx hb dX2_canStand_55 rfl (lv_at hl 0 rfl) ?_
      refine ln_if_lt (tgt := 89) hx hb dX2_canStand_56 (by decide) (by omega) ?_
      refine lv_iload_n hx hb dX2_canStand_59 rfl (lv_at hl 0 rfl) ?_
      refine va_gets hx hb hC.2.2.2.2.1.1 hS hown (hts _ flX2_150) (fun _ h => h) dX2_canStand_60 ?_
      refine va_tlen (v := (nI (7))) hx hb hC.2.2.2.2.1.2 hS rfl dX2_canStand_63 ?_
      refine lv_icmp_ge (tgt := 89) hx hb dX2_canStand_64 (by decide) (fun c => absurd c (by decide)) (fun _ => ?_)
      refine lv_iload_n hx hb dX2_canStand_67 rfl (lv_at hl 3 rfl) ?_
      refine va_gets hx hb hC.2.2.2.2.1.1 hS hown (hts _ flX2_150) (fun _ h => h) dX2_canStand_68 ?_
      refine lv_iload_n hx hb dX2_canStand_71 rfl (lv_at hl 0 rfl) ?_
      refine lk_ti (v := .int (nI (1))) hx hb hC.2.2.2.2.1.2 hS (by decide) (by decide) rfl dX2_canStand_72 ?_
      refine ln_icmp_lt (tgt := 89) hx hb dX2_canStand_73 (by decide) (by omega) (by omega) (fun c73 => ?_) (fun c73 => ?_)
      · refine lv_iconst (v := nI 0) hx hb dX2_canStand_89 (by decide) ?_
        refine ln_eq bI_f.symm ?_
        exact rt_z hx hb hr hlocks ((show slC τ 82 v = false from (congrFun slC_82 v).trans (decide_eq_false (by omega))).symm) dX2_canStand_90
      · refine lv_iload_n hx hb dX2_canStand_76 rfl (lv_at hl 3 rfl) ?_
        refine va_gets hx hb hC.2.2.2.2.2.1.1 hS hown (hts _ flX2_153) (fun _ h => h) dX2_canStand_77 ?_
        refine lv_iload_n hx hb dX2_canStand_80 rfl (lv_at hl 0 rfl) ?_
        refine lk_ti (v := .int (nI (8))) hx hb hC.2.2.2.2.2.1.2 hS (by decide) (by decide) rfl dX2_canStand_81 ?_
        refine ln_icmp_gt (tgt := 89) hx hb dX2_canStand_82 (by decide) (by omega) (by omega) (fun c82 => ?_) (fun c82 => ?_)
        · refine lv_iconst (v := nI 0) hx hb dX2_canStand_89 (by decide) ?_
          refine ln_eq bI_f.symm ?_
          exact rt_z hx hb hr hlocks ((show slC τ 82 v = false from (congrFun slC_82 v).trans (decide_eq_false (by omega))).symm) dX2_canStand_90
        · refine lv_iconst (v := nI 1) hx hb dX2_canStand_85 (by decide) ?_
          refine lv_goto (tgt := 90) hx hb dX2_canStand_86 (by decide) ?_
          refine ln_eq bI_t.symm ?_
          exact rt_z hx hb hr hlocks ((show slC τ 82 v = true from (congrFun slC_82 v).trans (decide_eq_true (by omega))).symm) dX2_canStand_90
  · refine lv_iload_n hx hb dX2_canStand_0 rfl (lv_at hl 1 rfl) ?_
    rcases ov with _ | v
    · have hl : lv_has ls 4 [(0, .ref (ad 8)), (1, .int (nI (77))), (2, .int (-1))] := hl
      refine lv_bipush (v := nI 84) hx hb dX2_canStand_1 (by decide) ?_
      refine lv_icmp_eq (tgt := 12) hx hb dX2_canStand_3 (by decide) (fun c => absurd c (by decide)) (fun _ => ?_)
      refine lv_iload_n hx hb dX2_canStand_6 rfl (lv_at hl 1 rfl) ?_
      refine lv_bipush (v := nI 72) hx hb dX2_canStand_7 (by decide) ?_
      refine lv_icmp_ne (tgt := 48) hx hb dX2_canStand_9 (by decide) (fun _ => ?_) (fun c => absurd c (by decide))
      refine va_ldcS hx hb hown hC.R dX2_canStand_48 ?_
      refine lv_iload_n hx hb dX2_canStand_50 rfl (lv_at hl 1 rfl) ?_
      refine kc_v (n := 1) (As := [.int (nI (77))]) (rest := []) ⟨hx, hb, hml, hown, hts⟩ (k_J0_indexOf_0f7a4 l aw aS aV aT 17 77 (by decide) (by omega) (by decide)) gvX2_147 (by decide +kernel) ⟨Nat.le_of_ble_eq_true rfl, Nat.le_of_ble_eq_true rfl⟩ hC hS (hC.srecv (by decide) hS) rfl hl.1 rfl (Nat.le_of_ble_eq_true rfl) dX2_canStand_51 ⟨Nat.zero_le _, Nat.zero_le _⟩ ?_
      refine ln_eq (show (ixI 17 77) = (nI (6)) from by decide +kernel) ?_
      refine lv_istore_n (lv' := [(3, .int (nI (6))), (0, .ref (ad 8)), (1, .int (nI (77))), (2, .int (-1))]) hx hb dX2_canStand_54 rfl hl (by decide) rfl (fun ls hl => ?_)
      refine lv_iload_n hx hb dX2_canStand_55 rfl (lv_at hl 0 rfl) ?_
      refine ln_if_lt (tgt := 89) hx hb dX2_canStand_56 (by decide) (by omega) ?_
      refine lv_iload_n hx hb dX2_canStand_59 rfl (lv_at hl 0 rfl) ?_
      refine va_gets hx hb hC.2.2.2.2.1.1 hS hown (hts _ flX2_150) (fun _ h => h) dX2_canStand_60 ?_
      refine va_tlen (v := (nI (7))) hx hb hC.2.2.2.2.1.2 hS rfl dX2_canStand_63 ?_
      refine lv_icmp_ge (tgt := 89) hx hb dX2_canStand_64 (by decide) (fun c => absurd c (by decide)) (fun _ => ?_)
      refine lv_iload_n hx hb dX2_canStand_67 rfl (lv_at hl 3 rfl) ?_
      refine va_gets hx hb hC.2.2.2.2.1.1 hS hown (hts _ flX2_150) (fun _ h => h) dX2_canStand_68 ?_
      refine lv_iload_n hx hb dX2_canStand_71 rfl (lv_at hl 0 rfl) ?_
      refine lk_ti (v := .int (nI (1))) hx hb hC.2.2.2.2.1.2 hS (by decide) (by decide) rfl dX2_canStand_72 ?_
      refine lv_icmp_lt (tgt := 89) hx hb dX2_canStand_73 (by decide) (fun _ => ?_) (fun c => absurd (by decide) c)
      refine lv_iconst (v := nI 0) hx hb dX2_canStand_89 (by decide) ?_
      refine ln_eq bI_f.symm ?_
      exact rt_z hx hb hr hlocks (rfl) dX2_canStand_90
    · have hl : lv_has ls 4 [(0, .ref (ad 8)), (1, .int (nI (77))), (2, .int (nI (v)))] := hl
      have hv9 := hv v rfl
      refine lv_bipush (v := nI 84) hx hb dX2_canStand_1 (by decide) ?_
      refine lv_icmp_eq (tgt := 12) hx hb dX2_canStand_3 (by decide) (fun c => absurd c (by decide)) (fun _ => ?_)
      refine lv_iload_n hx hb dX2_canStand_6 rfl (lv_at hl 1 rfl) ?_
      refine lv_bipush (v := nI 72) hx hb dX2_canStand_7 (by decide) ?_
      refine lv_icmp_ne (tgt := 48) hx hb dX2_canStand_9 (by decide) (fun _ => ?_) (fun c => absurd c (by decide))
      refine va_ldcS hx hb hown hC.R dX2_canStand_48 ?_
      refine lv_iload_n hx hb dX2_canStand_50 rfl (lv_at hl 1 rfl) ?_
      refine kc_v (n := 1) (As := [.int (nI (77))]) (rest := []) ⟨hx, hb, hml, hown, hts⟩ (k_J0_indexOf_0f7a4 l aw aS aV aT 17 77 (by decide) (by omega) (by decide)) gvX2_147 (by decide +kernel) ⟨Nat.le_of_ble_eq_true rfl, Nat.le_of_ble_eq_true rfl⟩ hC hS (hC.srecv (by decide) hS) rfl hl.1 rfl (Nat.le_of_ble_eq_true rfl) dX2_canStand_51 ⟨Nat.zero_le _, Nat.zero_le _⟩ ?_
      refine ln_eq (show (ixI 17 77) = (nI (6)) from by decide +kernel) ?_
      refine lv_istore_n (lv' := [(3, .int (nI (6))), (0, .ref (ad 8)), (1, .int (nI (77))), (2, .int (nI (v)))]) hx hb dX2_canStand_54 rfl hl (by decide) rfl (fun ls hl => ?_)
      refine lv_iload_n hx hb dX2_canStand_55 rfl (lv_at hl 0 rfl) ?_
      refine ln_if_lt (tgt := 89) hx hb dX2_canStand_56 (by decide) (by omega) ?_
      refine lv_iload_n hx hb dX2_canStand_59 rfl (lv_at hl 0 rfl) ?_
      refine va_gets hx hb hC.2.2.2.2.1.1 hS hown (hts _ flX2_150) (fun _ h => h) dX2_canStand_60 ?_
      refine va_tlen (v := (nI (7))) hx hb hC.2.2.2.2.1.2 hS rfl dX2_canStand_63 ?_
      refine lv_icmp_ge (tgt := 89) hx hb dX2_canStand_64 (by decide) (fun c => absurd c (by decide)) (fun _ => ?_)
      refine lv_iload_n hx hb dX2_canStand_67 rfl (lv_at hl 3 rfl) ?_
      refine va_gets hx hb hC.2.2.2.2.1.1 hS hown (hts _ flX2_150) (fun _ h => h) dX2_canStand_68 ?_
      refine lv_iload_n hx hb dX2_canStand_71 rfl (lv_at hl 0 rfl) ?_
      refine lk_ti (v := .int (nI (1))) hx hb hC.2.2.2.2.1.2 hS (by decide) (by decide) rfl dX2_canStand_72 ?_
      refine ln_icmp_lt (tgt := 89) hx hb dX2_canStand_73 (by decide) (by omega) (by omega) (fun c73 => ?_) (fun c73 => ?_)
      · refine lv_iconst (v := nI 0) hx hb dX2_canStand_89 (by decide) ?_
        refine ln_eq bI_f.symm ?_
        exact rt_z hx hb hr hlocks ((show slC τ 77 v = false from (congrFun slC_77 v).trans (decide_eq_false (by omega))).symm) dX2_canStand_90
      · refine lv_iload_n hx hb dX2_canStand_76 rfl (lv_at hl 3 rfl) ?_
        refine va_gets hx hb hC.2.2.2.2.2.1.1 hS hown (hts _ flX2_153) (fun _ h => h) dX2_canStand_77 ?_
        refine lv_iload_n hx hb dX2_canStand_80 rfl (lv_at hl 0 rfl) ?_
        refine lk_ti (v := .int (nI (9))) hx hb hC.2.2.2.2.2.1.2 hS (by decide) (by decide) rfl dX2_canStand_81 ?_
        refine ln_icmp_gt (tgt := 89) hx hb dX2_canStand_82 (by decide) (by omega) (by omega) (fun c82 => ?_) (fun c82 => ?_)
        · refine lv_iconst (v := nI 0) hx hb dX2_canStand_89 (by decide) ?_
          refine ln_eq bI_f.symm ?_
          exact rt_z hx hb hr hlocks ((show slC τ 77 v = false from (congrFun slC_77 v).trans (decide_eq_false (by omega))).symm) dX2_canStand_90
        · refine lv_iconst (v := nI 1) hx hb dX2_canStand_85 (by decide) ?_
          refine lv_goto (tgt := 90) hx hb dX2_canStand_86 (by decide) ?_
          refine ln_eq bI_t.symm ?_
          exact rt_z hx hb hr hlocks ((show slC τ 77 v = true from (congrFun slC_77 v).trans (decide_eq_true (by omega))).symm) dX2_canStand_90
  · refine lv_iload_n hx hb dX2_canStand_0 rfl (lv_at hl 1 rfl) ?_
    rcases ov with _ | v
    · have hl : lv_has ls 4 [(0, .ref (ad 8)), (1, .int (nI (84))), (2, .int (-1))] := hl
      refine lv_bipush (v := nI 84) hx hb dX2_canStand_1 (by decide) ?_
      refine lv_icmp_eq (tgt := 12) hx hb dX2_canStand_3 (by decide) (fun _ => ?_) (fun c => absurd (by decide) c)
      refine lv_iload_n hx hb dX2_canStand_12 rfl (lv_at hl 2 rfl) ?_
      refine lv_if_lt (tgt := 46) hx hb dX2_canStand_13 (by decide) (fun _ => ?_) (fun c => absurd (by decide) c)
      refine lv_iconst (v := nI 0) hx hb dX2_canStand_46 (by decide) ?_
      refine ln_eq bI_f.symm ?_
      exact rt_z hx hb hr hlocks (rfl) dX2_canStand_47
    · have hl : lv_has ls 4 [(0, .ref (ad 8)), (1, .int (nI (84))), (2, .int (nI (v)))] := hl
      have hv9 := hv v rfl
      refine lv_bipush (v := nI 84) hx hb dX2_canStand_1 (by decide) ?_
      refine lv_icmp_eq (tgt := 12) hx hb dX2_canStand_3 (by decide) (fun _ => ?_) (fun c => absurd (by decide) c)
      refine lv_iload_n hx hb dX2_canStand_12 rfl (lv_at hl 2 rfl) ?_
      refine ln_if_lt (tgt := 46) hx hb dX2_canStand_13 (by decide) (by omega) ?_
      refine lv_iload_n hx hb dX2_canStand_16 rfl (lv_at hl 2 rfl) ?_
      refine lv_aload_n hx hb dX2_canStand_17 rfl (lv_at hl 0 rfl) ?_
      refine va_get (D := D) (ci := 2) (v := .int (nI (s_n τ))) (C := RX2) (T := TX2) (N := 11) hx hb hts ni2 hown hK hP 8 (cw_c8 cy ad aw σ (ju_rf (ju_rh (ju_rt J (nI (s_n τ))) (nI (whN τ))) (nI (s_m τ)))) rfl 8 (by decide) (hts _ flX2_41) (fun _ h => h) rfl dX2_canStand_18 ?_
      refine ln_icmp_ge (tgt := 46) hx hb dX2_canStand_21 (by decide) (by omega) (by omega) (fun c21 => ?_) (fun c21 => ?_)
      · refine lv_iconst (v := nI 0) hx hb dX2_canStand_46 (by decide) ?_
        refine ln_eq bI_f.symm ?_
        exact rt_z hx hb hr hlocks ((show slC τ 84 v = false from (congrFun slC_84 v).trans (decide_eq_false (by omega))).symm) dX2_canStand_47
      · refine lv_iload_n hx hb dX2_canStand_24 rfl (lv_at hl 1 rfl) ?_
        refine lv_bipush (v := nI 84) hx hb dX2_canStand_25 (by decide) ?_
        refine lv_icmp_eq (tgt := 42) hx hb dX2_canStand_27 (by decide) (fun _ => ?_) (fun c => absurd (by decide) c)
        refine lv_iconst (v := nI 1) hx hb dX2_canStand_42 (by decide) ?_
        refine lv_goto (tgt := 47) hx hb dX2_canStand_43 (by decide) ?_
        refine ln_eq bI_t.symm ?_
        exact rt_z hx hb hr hlocks ((show slC τ 84 v = true from (congrFun slC_84 v).trans (decide_eq_true (by omega))).symm) dX2_canStand_47
  · refine lv_iload_n hx hb dX2_canStand_0 rfl (lv_at hl 1 rfl) ?_
    rcases ov with _ | v
    · have hl : lv_has ls 4 [(0, .ref (ad 8)), (1, .int (nI (72))), (2, .int (-1))] := hl
      refine lv_bipush (v := nI 84) hx hb dX2_canStand_1 (by decide) ?_
      refine lv_icmp_eq (tgt := 12) hx hb dX2_canStand_3 (by decide) (fun c => absurd c (by decide)) (fun _ => ?_)
      refine lv_iload_n hx hb dX2_canStand_6 rfl (lv_at hl 1 rfl) ?_
      refine lv_bipush (v := nI 72) hx hb dX2_canStand_7 (by decide) ?_
      refine lv_icmp_ne (tgt := 48) hx hb dX2_canStand_9 (by decide) (fun c => absurd (by decide) c) (fun _ => ?_)
      refine lv_iload_n hx hb dX2_canStand_12 rfl (lv_at hl 2 rfl) ?_
      refine lv_if_lt (tgt := 46) hx hb dX2_canStand_13 (by decide) (fun _ => ?_) (fun c => absurd (by decide) c)
      refine lv_iconst (v := nI 0) hx hb dX2_canStand_46 (by decide) ?_
      refine ln_eq bI_f.symm ?_
      exact rt_z hx hb hr hlocks (rfl) dX2_canStand_47
    · have hl : lv_has ls 4 [(0, .ref (ad 8)), (1, .int (nI (72))), (2, .int (nI (v)))] := hl
      have hv9 := hv v rfl
      refine lv_bipush (v := nI 84) hx hb dX2_canStand_1 (by decide) ?_
      refine lv_icmp_eq (tgt := 12) hx hb dX2_canStand_3 (by decide) (fun c => absurd c (by decide)) (fun _ => ?_)
      refine lv_iload_n hx hb dX2_canStand_6 rfl (lv_at hl 1 rfl) ?_
      refine lv_bipush (v := nI 72) hx hb dX2_canStand_7 (by decide) ?_
      refine lv_icmp_ne (tgt := 48) hx hb dX2_canStand_9 (by decide) (fun c => absurd (by decide) c) (fun _ => ?_)
      refine lv_iload_n hx hb dX2_canStand_12 rfl (lv_at hl 2 rfl) ?_
      refine ln_if_lt (tgt := 46) hx hb dX2_canStand_13 (by decide) (by omega) ?_
      refine lv_iload_n hx hb dX2_canStand_16 rfl (lv_at hl 2 rfl) ?_
      refine lv_aload_n hx hb dX2_canStand_17 rfl (lv_at hl 0 rfl) ?_
      refine va_get (D := D) (ci := 2) (v := .int (nI (s_n τ))) (C := RX2) (T := TX2) (N := 11) hx hb hts ni2 hown hK hP 8 (cw_c8 cy ad aw σ (ju_rf (ju_rh (ju_rt J (nI (s_n τ))) (nI (whN τ))) (nI (s_m τ)))) rfl 8 (by decide) (hts _ flX2_41) (fun _ h => h) rfl dX2_canStand_18 ?_
      refine ln_icmp_ge (tgt := 46) hx hb dX2_canStand_21 (by decide) (by omega) (by omega) (fun c21 => ?_) (fun c21 => ?_)
      · refine lv_iconst (v := nI 0) hx hb dX2_canStand_46 (by decide) ?_
        refine ln_eq bI_f.symm ?_
        exact rt_z hx hb hr hlocks ((show slC τ 72 v = false from (congrFun slC_72 v).trans (by first | rw [decide_eq_false (show ¬ v < s_n τ by omega)]; rfl | rw [decide_eq_false (show ¬ s_th τ (6 * v) < 2 from fun z => c39 (wc_bit.mpr ⟨by omega, z⟩)), Bool.and_false])).symm) dX2_canStand_47
      · refine lv_iload_n hx hb dX2_canStand_24 rfl (lv_at hl 1 rfl) ?_
        refine lv_bipush (v := nI 84) hx hb dX2_canStand_25 (by decide) ?_
        refine lv_icmp_eq (tgt := 42) hx hb dX2_canStand_27 (by decide) (fun c => absurd c (by decide)) (fun _ => ?_)
        refine lv_aload_n hx hb dX2_canStand_30 rfl (lv_at hl 0 rfl) ?_
        refine va_get (D := D) (ci := 2) (v := .int (nI (whN τ))) (C := RX2) (T := TX2) (N := 11) hx hb hts ni2 hown hK hP 8 (cw_c8 cy ad aw σ (ju_rf (ju_rh (ju_rt J (nI (s_n τ))) (nI (whN τ))) (nI (s_m τ)))) rfl 9 (by decide) (hts _ flX2_47) (fun _ h => h) rfl dX2_canStand_31 ?_
        refine lv_iload_n hx hb dX2_canStand_34 rfl (lv_at hl 2 rfl) ?_
        refine ln_ishr hx hb dX2_canStand_35 (by omega) (by omega) ?_
        refine lv_iconst (v := nI 1) hx hb dX2_canStand_36 (by decide) ?_
        refine ln_iand hx hb dX2_canStand_37 ?_
        refine lv_iconst (v := nI 1) hx hb dX2_canStand_38 (by decide) ?_
        refine ln_icmp_ne (tgt := 46) hx hb dX2_canStand_39 (by decide) (and1_lt _) (by decide) (fun c39 => ?_) (fun c39 => ?_)
        · refine lv_iconst (v := nI 0) hx hb dX2_canStand_46 (by decide) ?_
          refine ln_eq bI_f.symm ?_
          exact rt_z hx hb hr hlocks ((show slC τ 72 v = false from (congrFun slC_72 v).trans (by first | rw [decide_eq_false (show ¬ v < s_n τ by omega)]; rfl | rw [decide_eq_false (show ¬ s_th τ (6 * v) < 2 from fun z => c39 (wc_bit.mpr ⟨by omega, z⟩)), Bool.and_false])).symm) dX2_canStand_47
        · refine lv_iconst (v := nI 1) hx hb dX2_canStand_42 (by decide) ?_
          refine lv_goto (tgt := 47) hx hb dX2_canStand_43 (by decide) ?_
          refine ln_eq bI_t.symm ?_
          exact rt_z hx hb hr hlocks ((show slC τ 72 v = true from (congrFun slC_72 v).trans (by have hq := wc_bit.mp c39; rw [decide_eq_true hq.1, decide_eq_true hq.2]; rfl)).symm) dX2_canStand_47
set_option maxHeartbeats 4000000 in
set_option maxRecDepth 100000 in
theorem k_X2_foresee (l : Launch) (D : va_G) (cy : Nat → ClassId) (ad aw aS aV aT : Nat → Nat) (σ : Sg) (J : Js) (τ : Sg) (i : Nat) (xs : List Nat) (hi : i < 11) (hR : RTc τ J) (h8 : s_n τ ≤ 8) : MVC l yX2_foresee qX2_foresee 1 [.ref (ad 8), .ref (aw i)] D cy (cw cy ad aw σ J) aw aS aV aT (fun _ : Unit => True) (fun _ : Unit => cw cy ad aw σ (fsJ (doL τ (wo i) xs) J)) := by
  intro sz
  refine Met.ofW (cc := cX2_foresee) (maxL := 2) (ret := none) (by decide) rfl ?_
  intro p e s m args below meth c s₁ B hml hv
  obtain ⟨rfl, rfl, hP, hK, hN, hD0, hC⟩ := hv
  have hx := B.exec
  have hb := B.bytes
  have hr := B.returns
  have hlocks := B.notSynchronized
  have hts : ∀ cq ∈ tg, cq.before ([.ref (ad 8), .ref (aw i)] : List Value).toArray s = true := fun cq h => atoms_spec (ws := qX2_foresee) B.pre cq (List.mem_cons_of_mem _ h)
  have hown : s.vm.findClass RX2 = some m.cls := findClass_of_methodNamed B.named
  have hD := hD0.self (sz := s.heap.size)
  generalize hAe : va_A (cw cy ad aw σ J) s.heap.size = A at hD hC ⊢
  have hA : ∀ q : Nat, s.heap.size ≤ q → A q := fun q h => by rw [← hAe]; exact Or.inr h
  have hS : va_S A s.heap s.heap [] := va_S.rf
  have hl := lv_entry ([.ref (ad 8), .ref (aw i)]) (n := 2) (Nat.le_of_ble_eq_true rfl)
  rw [lg_entry_eq]
  generalize (lg_sl ([.ref (ad 8), .ref (aw i)]) ++ List.replicate (2 - (lg_sl ([.ref (ad 8), .ref (aw i)])).length) Slot.unset).toArray = ls at hl ⊢
  have hl : lv_has ls 2 [(0, .ref (ad 8)), (1, .ref (aw i))] := hl
  have hwl := wc_lt τ h8
  have hP : va_P D vwCl (cw cy ad aw σ (ju_rf (ju_rh (ju_rt J (nI (s_n τ))) (nI (whN τ))) (nI (s_m τ)))) s.heap := by rw [← hR.eta]; exact hP
  have hD : va_D A (cw cy ad aw σ (ju_rf (ju_rh (ju_rt J (nI (s_n τ))) (nI (whN τ))) (nI (s_m τ)))) := by rw [← hR.eta]; exact hD
  rcases (show i = 0 ∨ i = 1 ∨ i = 2 ∨ i = 3 ∨ i = 4 ∨ i = 5 ∨ i = 6 ∨ i = 7 ∨ i = 8 ∨ i = 9 ∨ i = 10 by omega) with rfl | rfl | rfl | rfl | rfl | rfl | rfl | rfl | rfl | rfl | rfl
  · refine lv_aload_n hx hb dX2_foresee_0 rfl (lv_at hl 1 rfl) ?_
    refine va_gets hx hb (hC.1 0 (by decide)).1 hS hown (hts _ flX2_156) (fun _ h => h) dX2_foresee_1 ?_
    refine lk_acmp_eq (tgt := 25) hx hb dX2_foresee_4 (by decide) ?_
    refine lv_aload_n hx hb dX2_foresee_7 rfl (lv_at hl 0 rfl) ?_
    refine lv_iconst (v := nI 0) hx hb dX2_foresee_8 (by decide) ?_
    refine ln_put (ci := 2) (C := RX2) (T := TX2) (N := 11) (ty := .int) (v := .int (nI (0))) hx hb hts ni2 tyX2 tyX2_ok nmX2 hown hK hP hD hS 8 (cw_c8 cy ad aw σ (ju_rf (ju_rh (ju_rt J (nI (s_n τ))) (nI (whN τ))) (nI (s_m τ)))) rfl 8 (by decide) (hts _ flX2_41) (fun _ h => h) rfl (by decide +kernel) rfl rfl (Nat.le_of_ble_eq_true rfl) ((cp_8_8 cy ad aw σ (ju_rf (ju_rh (ju_rt J (nI (s_n τ))) (nI (whN τ))) (nI (s_m τ))) (nI (0))).trans (congrArg (fun z => cw cy ad aw σ z) (by rw [jx_rt_rf, jx_rt_rh, jc_rt]))) dX2_foresee_9 (fun H locs hP hD hS => ?_)
    refine lv_aload_n hx hb dX2_foresee_12 rfl (lv_at hl 0 rfl) ?_
    refine lv_iconst (v := nI 0) hx hb dX2_foresee_13 (by decide) ?_
    refine ln_put (ci := 2) (C := RX2) (T := TX2) (N := 11) (ty := .int) (v := .int (nI (0))) hx hb hts ni2 tyX2 tyX2_ok nmX2 hown hK hP hD hS 8 (cw_c8 cy ad aw σ (ju_rf (ju_rh (ju_rt J (nI (0))) (nI (whN τ))) (nI (s_m τ)))) rfl 9 (by decide) (hts _ flX2_47) (fun _ h => h) rfl (by decide +kernel) rfl rfl (Nat.le_of_ble_eq_true rfl) ((cp_8_9 cy ad aw σ (ju_rf (ju_rh (ju_rt J (nI (0))) (nI (whN τ))) (nI (s_m τ))) (nI (0))).trans (congrArg (fun z => cw cy ad aw σ z) (by rw [jx_rh_rf, jc_rh]))) dX2_foresee_14 (fun H locs hP hD hS => ?_)
    refine lv_aload_n hx hb dX2_foresee_17 rfl (lv_at hl 0 rfl) ?_
    refine lv_iconst (v := nI 0) hx hb dX2_foresee_18 (by decide) ?_
    refine ln_put (ci := 2) (C := RX2) (T := TX2) (N := 11) (ty := .int) (v := .int (nI (0))) hx hb hts ni2 tyX2 tyX2_ok nmX2 hown hK hP hD hS 8 (cw_c8 cy ad aw σ (ju_rf (ju_rh (ju_rt J (nI (0))) (nI (0))) (nI (s_m τ)))) rfl 10 (by decide) (hts _ flX2_51) (fun _ h => h) rfl (by decide +kernel) rfl rfl (Nat.le_of_ble_eq_true rfl) ((cp_8_10 cy ad aw σ (ju_rf (ju_rh (ju_rt J (nI (0))) (nI (0))) (nI (s_m τ))) (nI (0))).trans (congrArg (fun z => cw cy ad aw σ z) (by rw [jc_rf]))) dX2_foresee_19 (fun H locs hP hD hS => ?_)
    refine lv_goto (tgt := 93) hx hb dX2_foresee_22 (by decide) ?_
    exact rw_v hx hb hr hlocks hS () (trivial) (by show va_P D vwCl (cw cy ad aw σ (fsJ (doL τ (wo 0) xs) J)) _; rw [fs_eq (τ := doL τ (wo 0) xs) (J := J) (X := 0) (Y := 0) (Z := 0) rfl rfl rfl]; exact hP) dX2_foresee_93
  · refine lv_aload_n hx hb dX2_foresee_0 rfl (lv_at hl 1 rfl) ?_
    refine va_gets hx hb (hC.1 0 (by decide)).1 hS hown (hts _ flX2_156) (fun _ h => h) dX2_foresee_1 ?_
    refine lk_acmp_ne (tgt := 25) hx hb dX2_foresee_4 (by decide) (hC.ne (by decide) (by decide) (by decide)) ?_
    refine lv_aload_n hx hb dX2_foresee_25 rfl (lv_at hl 1 rfl) ?_
    refine vk_getf (v := .int (nI (0))) hx hb (hC.1 1 (by decide)).2.2.2.1 hS hown (hts _ flX2_139) (fun _ h => h) dX2_foresee_26 ?_
    refine lv_iconst (v := -1) hx hb dX2_foresee_29 (by decide) ?_
    refine lv_icmp_eq (tgt := 75) hx hb dX2_foresee_30 (by decide) (fun c => absurd c (m1_ne _ (by omega))) (fun _ => ?_)
    refine lv_aload_n hx hb dX2_foresee_33 rfl (lv_at hl 0 rfl) ?_
    refine lv_dup hx hb dX2_foresee_34 rfl ?_
    refine va_get (D := D) (ci := 2) (v := .int (nI (whN τ))) (C := RX2) (T := TX2) (N := 11) hx hb hts ni2 hown hK hP 8 (cw_c8 cy ad aw σ (ju_rf (ju_rh (ju_rt J (nI (s_n τ))) (nI (whN τ))) (nI (s_m τ)))) rfl 9 (by decide) (hts _ flX2_47) (fun _ h => h) rfl dX2_foresee_35 ?_
    refine lv_aload_n hx hb dX2_foresee_38 rfl (lv_at hl 1 rfl) ?_
    refine vk_getf (v := .int (nI (0))) hx hb (hC.1 1 (by decide)).2.2.2.1 hS hown (hts _ flX2_139) (fun _ h => h) dX2_foresee_39 ?_
    refine cr_so (n := 1) (As := [.int (nI (0))]) (rest := [.int (nI (whN τ)), .ref (ad 8)]) ⟨hx, hb, hml, hown, hts⟩ (k_X8_isHatted l 0 (by omega)) (hts _ mlX2_159) (hts _ smX8_isHatted) (hts _ iniX8) (gc_of cdX8_isHatted) (by decide +kernel) ⟨Nat.le_of_ble_eq_true rfl, Nat.le_of_ble_eq_true rfl⟩ rfl hl.1 rfl (Nat.le_of_ble_eq_true rfl) dX2_foresee_42 ⟨Nat.zero_le _, Nat.zero_le _⟩ ?_
    refine ln_eq (show (bI (decide (0 < 2))) = bI true from by decide) ?_
    refine lb_if_eq (tgt := 57) hx hb dX2_foresee_45 (by decide) (fun c => absurd c (by decide)) (fun _ => ?_)
    refine lv_iconst (v := nI 1) hx hb dX2_foresee_48 (by decide) ?_
    refine lv_aload_n hx hb dX2_foresee_49 rfl (lv_at hl 0 rfl) ?_
    refine va_get (D := D) (ci := 2) (v := .int (nI (s_n τ))) (C := RX2) (T := TX2) (N := 11) hx hb hts ni2 hown hK hP 8 (cw_c8 cy ad aw σ (ju_rf (ju_rh (ju_rt J (nI (s_n τ))) (nI (whN τ))) (nI (s_m τ)))) rfl 8 (by decide) (hts _ flX2_41) (fun _ h => h) rfl dX2_foresee_50 ?_
    refine ln_ishl hx hb dX2_foresee_53 (by omega) (by have := pw_8 h8; omega) ?_
    refine lv_goto (tgt := 58) hx hb dX2_foresee_54 (by decide) ?_
    refine ln_ior hx hb dX2_foresee_58 ?_
    refine ln_put (ci := 2) (C := RX2) (T := TX2) (N := 11) (ty := .int) (v := .int (nI ((whN τ) ||| (1 * 2 ^ (s_n τ))))) hx hb hts ni2 tyX2 tyX2_ok nmX2 hown hK hP hD hS 8 (cw_c8 cy ad aw σ (ju_rf (ju_rh (ju_rt J (nI (s_n τ))) (nI (whN τ))) (nI (s_m τ)))) rfl 9 (by decide) (hts _ flX2_47) (fun _ h => h) rfl (by decide +kernel) rfl rfl (Nat.le_of_ble_eq_true rfl) ((cp_8_9 cy ad aw σ (ju_rf (ju_rh (ju_rt J (nI (s_n τ))) (nI (whN τ))) (nI (s_m τ))) (nI ((whN τ) ||| (1 * 2 ^ (s_n τ))))).trans (congrArg (fun z => cw cy ad aw σ z) (by rw [jx_rh_rf, jc_rh]))) dX2_foresee_59 (fun H locs hP hD hS => ?_)
    refine lv_aload_n hx hb dX2_foresee_62 rfl (lv_at hl 0 rfl) ?_
    refine lv_dup hx hb dX2_foresee_63 rfl ?_
    refine va_get (D := D) (ci := 2) (v := .int (nI (s_n τ))) (C := RX2) (T := TX2) (N := 11) hx hb hts ni2 hown hK hP 8 (cw_c8 cy ad aw σ (ju_rf (ju_rh (ju_rt J (nI (s_n τ))) (nI ((whN τ) ||| (1 * 2 ^ (s_n τ))))) (nI (s_m τ)))) rfl 8 (by decide) (hts _ flX2_41) (fun _ h => h) rfl dX2_foresee_64 ?_
    refine lv_iconst (v := nI 1) hx hb dX2_foresee_67 (by decide) ?_
    refine ln_iadd hx hb dX2_foresee_68 ?_
    refine ln_put (ci := 2) (C := RX2) (T := TX2) (N := 11) (ty := .int) (v := .int (nI ((s_n τ) + 1))) hx hb hts ni2 tyX2 tyX2_ok nmX2 hown hK hP hD hS 8 (cw_c8 cy ad aw σ (ju_rf (ju_rh (ju_rt J (nI (s_n τ))) (nI ((whN τ) ||| (1 * 2 ^ (s_n τ))))) (nI (s_m τ)))) rfl 8 (by decide) (hts _ flX2_41) (fun _ h => h) rfl (by decide +kernel) rfl rfl (Nat.le_of_ble_eq_true rfl) ((cp_8_8 cy ad aw σ (ju_rf (ju_rh (ju_rt J (nI (s_n τ))) (nI ((whN τ) ||| (1 * 2 ^ (s_n τ))))) (nI (s_m τ))) (nI ((s_n τ) + 1))).trans (congrArg (fun z => cw cy ad aw σ z) (by rw [jx_rt_rf, jx_rt_rh, jc_rt]))) dX2_foresee_69 (fun H locs hP hD hS => ?_)
    refine lv_goto (tgt := 93) hx hb dX2_foresee_72 (by decide) ?_
    exact rw_v hx hb hr hlocks hS () (trivial) (by show va_P D vwCl (cw cy ad aw σ (fsJ (doL τ (wo 1) xs) J)) _; rw [fs_eq (τ := doL τ (wo 1) xs) (J := J) (X := ((s_n τ) + 1)) (Y := ((whN τ) ||| (1 * 2 ^ (s_n τ)))) (Z := (s_m τ)) rfl ((wh_T (k := wo 1) (l := xs) (by decide)).trans (by rw [if_pos (by decide), Nat.one_mul])) rfl]; exact hP) dX2_foresee_93
  · refine lv_aload_n hx hb dX2_foresee_0 rfl (lv_at hl 1 rfl) ?_
    refine va_gets hx hb (hC.1 0 (by decide)).1 hS hown (hts _ flX2_156) (fun _ h => h) dX2_foresee_1 ?_
    refine lk_acmp_ne (tgt := 25) hx hb dX2_foresee_4 (by decide) (hC.ne (by decide) (by decide) (by decide)) ?_
    refine lv_aload_n hx hb dX2_foresee_25 rfl (lv_at hl 1 rfl) ?_
    refine vk_getf (v := .int (nI (1))) hx hb (hC.1 2 (by decide)).2.2.2.1 hS hown (hts _ flX2_139) (fun _ h => h) dX2_foresee_26 ?_
    refine lv_iconst (v := -1) hx hb dX2_foresee_29 (by decide) ?_
    refine lv_icmp_eq (tgt := 75) hx hb dX2_foresee_30 (by decide) (fun c => absurd c (m1_ne _ (by omega))) (fun _ => ?_)
    refine lv_aload_n hx hb dX2_foresee_33 rfl (lv_at hl 0 rfl) ?_
    refine lv_dup hx hb dX2_foresee_34 rfl ?_
    refine va_get (D := D) (ci := 2) (v := .int (nI (whN τ))) (C := RX2) (T := TX2) (N := 11) hx hb hts ni2 hown hK hP 8 (cw_c8 cy ad aw σ (ju_rf (ju_rh (ju_rt J (nI (s_n τ))) (nI (whN τ))) (nI (s_m τ)))) rfl 9 (by decide) (hts _ flX2_47) (fun _ h => h) rfl dX2_foresee_35 ?_
    refine lv_aload_n hx hb dX2_foresee_38 rfl (lv_at hl 1 rfl) ?_
    refine vk_getf (v := .int (nI (1))) hx hb (hC.1 2 (by decide)).2.2.2.1 hS hown (hts _ flX2_139) (fun _ h => h) dX2_foresee_39 ?_
    refine cr_so (n := 1) (As := [.int (nI (1))]) (rest := [.int (nI (whN τ)), .ref (ad 8)]) ⟨hx, hb, hml, hown, hts⟩ (k_X8_isHatted l 1 (by omega)) (hts _ mlX2_159) (hts _ smX8_isHatted) (hts _ iniX8) (gc_of cdX8_isHatted) (by decide +kernel) ⟨Nat.le_of_ble_eq_true rfl, Nat.le_of_ble_eq_true rfl⟩ rfl hl.1 rfl (Nat.le_of_ble_eq_true rfl) dX2_foresee_42 ⟨Nat.zero_le _, Nat.zero_le _⟩ ?_
    refine ln_eq (show (bI (decide (1 < 2))) = bI true from by decide) ?_
    refine lb_if_eq (tgt := 57) hx hb dX2_foresee_45 (by decide) (fun c => absurd c (by decide)) (fun _ => ?_)
    refine lv_iconst (v := nI 1) hx hb dX2_foresee_48 (by decide) ?_
    refine lv_aload_n hx hb dX2_foresee_49 rfl (lv_at hl 0 rfl) ?_
    refine va_get (D := D) (ci := 2) (v := .int (nI (s_n τ))) (C := RX2) (T := TX2) (N := 11) hx hb hts ni2 hown hK hP 8 (cw_c8 cy ad aw σ (ju_rf (ju_rh (ju_rt J (nI (s_n τ))) (nI (whN τ))) (nI (s_m τ)))) rfl 8 (by decide) (hts _ flX2_41) (fun _ h => h) rfl dX2_foresee_50 ?_
    refine ln_ishl hx hb dX2_foresee_53 (by omega) (by have := pw_8 h8; omega) ?_
    refine lv_goto (tgt := 58) hx hb dX2_foresee_54 (by decide) ?_
    refine ln_ior hx hb dX2_foresee_58 ?_
    refine ln_put (ci := 2) (C := RX2) (T := TX2) (N := 11) (ty := .int) (v := .int (nI ((whN τ) ||| (1 * 2 ^ (s_n τ))))) hx hb hts ni2 tyX2 tyX2_ok nmX2 hown hK hP hD hS 8 (cw_c8 cy ad aw σ (ju_rf (ju_rh (ju_rt J (nI (s_n τ))) (nI (whN τ))) (nI (s_m τ)))) rfl 9 (by decide) (hts _ flX2_47) (fun _ h => h) rfl (by decide +kernel) rfl rfl (Nat.le_of_ble_eq_true rfl) ((cp_8_9 cy ad aw σ (ju_rf (ju_rh (ju_rt J (nI (s_n τ))) (nI (whN τ))) (nI (s_m τ))) (nI ((whN τ) ||| (1 * 2 ^ (s_n τ))))).trans (congrArg (fun z => cw cy ad aw σ z) (by rw [jx_rh_rf, jc_rh]))) dX2_foresee_59 (fun H locs hP hD hS => ?_)
    refine lv_aload_n hx hb dX2_foresee_62 rfl (lv_at hl 0 rfl) ?_
    refine lv_dup hx hb dX2_foresee_63 rfl ?_
    refine va_get (D := D) (ci := 2) (v := .int (nI (s_n τ))) (C := RX2) (T := TX2) (N := 11) hx hb hts ni2 hown hK hP 8 (cw_c8 cy ad aw σ (ju_rf (ju_rh (ju_rt J (nI (s_n τ))) (nI ((whN τ) ||| (1 * 2 ^ (s_n τ))))) (nI (s_m τ)))) rfl 8 (by decide) (hts _ flX2_41) (fun _ h => h) rfl dX2_foresee_64 ?_
    refine lv_iconst (v := nI 1) hx hb dX2_foresee_67 (by decide) ?_
    refine ln_iadd hx hb dX2_foresee_68 ?_
    refine ln_put (ci := 2) (C := RX2) (T := TX2) (N := 11) (ty := .int) (v := .int (nI ((s_n τ) + 1))) hx hb hts ni2 tyX2 tyX2_ok nmX2 hown hK hP hD hS 8 (cw_c8 cy ad aw σ (ju_rf (ju_rh (ju_rt J (nI (s_n τ))) (nI ((whN τ) ||| (1 * 2 ^ (s_n τ))))) (nI (s_m τ)))) rfl 8 (by decide) (hts _ flX2_41) (fun _ h => h) rfl (by decide +kernel) rfl rfl (Nat.le_of_ble_eq_true rfl) ((cp_8_8 cy ad aw σ (ju_rf (ju_rh (ju_rt J (nI (s_n τ))) (nI ((whN τ) ||| (1 * 2 ^ (s_n τ))))) (nI (s_m τ))) (nI ((s_n τ) + 1))).trans (congrArg (fun z => cw cy ad aw σ z) (by rw [jx_rt_rf, jx_rt_rh, jc_rt]))) dX2_foresee_69 (fun H locs hP hD hS => ?_)
    refine lv_goto (tgt := 93) hx hb dX2_foresee_72 (by decide) ?_
    exact rw_v hx hb hr hlocks hS () (trivial) (by show va_P D vwCl (cw cy ad aw σ (fsJ (doL τ (wo 2) xs) J)) _; rw [fs_eq (τ := doL τ (wo 2) xs) (J := J) (X := ((s_n τ) + 1)) (Y := ((whN τ) ||| (1 * 2 ^ (s_n τ)))) (Z := (s_m τ)) rfl ((wh_T (k := wo 2) (l := xs) (by decide)).trans (by rw [if_pos (by decide), Nat.one_mul])) rfl]; exact hP) dX2_foresee_93
  · refine lv_aload_n hx hb dX2_foresee_0 rfl (lv_at hl 1 rfl) ?_
    refine va_gets hx hb (hC.1 0 (by decide)).1 hS hown (hts _ flX2_156) (fun _ h => h) dX2_foresee_1 ?_
    refine lk_acmp_ne (tgt := 25) hx hb dX2_foresee_4 (by decide) (hC.ne (by decide) (by decide) (by decide)) ?_
    refine lv_aload_n hx hb dX2_foresee_25 rfl (lv_at hl 1 rfl) ?_
    refine vk_getf (v := .int (nI (2))) hx hb (hC.1 3 (by decide)).2.2.2.1 hS hown (hts _ flX2_139) (fun _ h => h) dX2_foresee_26 ?_
    refine lv_iconst (v := -1) hx hb dX2_foresee_29 (by decide) ?_
    refine lv_icmp_eq (tgt := 75) hx hb dX2_foresee_30 (by decide) (fun c => absurd c (m1_ne _ (by omega))) (fun _ => ?_)
    refine lv_aload_n hx hb dX2_foresee_33 rfl (lv_at hl 0 rfl) ?_
    refine lv_dup hx hb dX2_foresee_34 rfl ?_
    refine va_get (D := D) (ci := 2) (v := .int (nI (whN τ))) (C := RX2) (T := TX2) (N := 11) hx hb hts ni2 hown hK hP 8 (cw_c8 cy ad aw σ (ju_rf (ju_rh (ju_rt J (nI (s_n τ))) (nI (whN τ))) (nI (s_m τ)))) rfl 9 (by decide) (hts _ flX2_47) (fun _ h => h) rfl dX2_foresee_35 ?_
    refine lv_aload_n hx hb dX2_foresee_38 rfl (lv_at hl 1 rfl) ?_
    refine vk_getf (v := .int (nI (2))) hx hb (hC.1 3 (by decide)).2.2.2.1 hS hown (hts _ flX2_139) (fun _ h => h) dX2_foresee_39 ?_
    refine cr_so (n := 1) (As := [.int (nI (2))]) (rest := [.int (nI (whN τ)), .ref (ad 8)]) ⟨hx, hb, hml, hown, hts⟩ (k_X8_isHatted l 2 (by omega)) (hts _ mlX2_159) (hts _ smX8_isHatted) (hts _ iniX8) (gc_of cdX8_isHatted) (by decide +kernel) ⟨Nat.le_of_ble_eq_true rfl, Nat.le_of_ble_eq_true rfl⟩ rfl hl.1 rfl (Nat.le_of_ble_eq_true rfl) dX2_foresee_42 ⟨Nat.zero_le _, Nat.zero_le _⟩ ?_
    refine ln_eq (show (bI (decide (2 < 2))) = bI false from by decide) ?_
    refine lb_if_eq (tgt := 57) hx hb dX2_foresee_45 (by decide) (fun _ => ?_) (fun c => absurd c (by decide))
    refine lv_iconst (v := nI 0) hx hb dX2_foresee_57 (by decide) ?_
    refine ln_ior hx hb dX2_foresee_58 ?_
    refine ln_put (ci := 2) (C := RX2) (T := TX2) (N := 11) (ty := .int) (v := .int (nI ((whN τ) ||| 0))) hx hb hts ni2 tyX2 tyX2_ok nmX2 hown hK hP hD hS 8 (cw_c8 cy ad aw σ (ju_rf (ju_rh (ju_rt J (nI (s_n τ))) (nI (whN τ))) (nI (s_m τ)))) rfl 9 (by decide) (hts _ flX2_47) (fun _ h => h) rfl (by decide +kernel) rfl rfl (Nat.le_of_ble_eq_true rfl) ((cp_8_9 cy ad aw σ (ju_rf (ju_rh (ju_rt J (nI (s_n τ))) (nI (whN τ))) (nI (s_m τ))) (nI ((whN τ) ||| 0))).trans (congrArg (fun z => cw cy ad aw σ z) (by rw [jx_rh_rf, jc_rh]))) dX2_foresee_59 (fun H locs hP hD hS => ?_)
    refine lv_aload_n hx hb dX2_foresee_62 rfl (lv_at hl 0 rfl) ?_
    refine lv_dup hx hb dX2_foresee_63 rfl ?_
    refine va_get (D := D) (ci := 2) (v := .int (nI (s_n τ))) (C := RX2) (T := TX2) (N := 11) hx hb hts ni2 hown hK hP 8 (cw_c8 cy ad aw σ (ju_rf (ju_rh (ju_rt J (nI (s_n τ))) (nI ((whN τ) ||| 0))) (nI (s_m τ)))) rfl 8 (by decide) (hts _ flX2_41) (fun _ h => h) rfl dX2_foresee_64 ?_
    refine lv_iconst (v := nI 1) hx hb dX2_foresee_67 (by decide) ?_
    refine ln_iadd hx hb dX2_foresee_68 ?_
    refine ln_put (ci := 2) (C := RX2) (T := TX2) (N := 11) (ty := .int) (v := .int (nI ((s_n τ) + 1))) hx hb hts ni2 tyX2 tyX2_ok nmX2 hown hK hP hD hS 8 (cw_c8 cy ad aw σ (ju_rf (ju_rh (ju_rt J (nI (s_n τ))) (nI ((whN τ) ||| 0))) (nI (s_m τ)))) rfl 8 (by decide) (hts _ flX2_41) (fun _ h => h) rfl (by decide +kernel) rfl rfl (Nat.le_of_ble_eq_true rfl) ((cp_8_8 cy ad aw σ (ju_rf (ju_rh (ju_rt J (nI (s_n τ))) (nI ((whN τ) ||| 0))) (nI (s_m τ))) (nI ((s_n τ) + 1))).trans (congrArg (fun z => cw cy ad aw σ z) (by rw [jx_rt_rf, jx_rt_rh, jc_rt]))) dX2_foresee_69 (fun H locs hP hD hS => ?_)
    refine lv_goto (tgt := 93) hx hb dX2_foresee_72 (by decide) ?_
    exact rw_v hx hb hr hlocks hS () (trivial) (by show va_P D vwCl (cw cy ad aw σ (fsJ (doL τ (wo 3) xs) J)) _; rw [fs_eq (τ := doL τ (wo 3) xs) (J := J) (X := ((s_n τ) + 1)) (Y := ((whN τ) ||| 0)) (Z := (s_m τ)) rfl ((wh_T (k := wo 3) (l := xs) (by decide)).trans (by rw [if_neg (by decide)])) rfl]; exact hP) dX2_foresee_93
  · refine lv_aload_n hx hb dX2_foresee_0 rfl (lv_at hl 1 rfl) ?_
    refine va_gets hx hb (hC.1 0 (by decide)).1 hS hown (hts _ flX2_156) (fun _ h => h) dX2_foresee_1 ?_
    refine lk_acmp_ne (tgt := 25) hx hb dX2_foresee_4 (by decide) (hC.ne (by decide) (by decide) (by decide)) ?_
    refine lv_aload_n hx hb dX2_foresee_25 rfl (lv_at hl 1 rfl) ?_
    refine vk_getf (v := .int (nI (3))) hx hb (hC.1 4 (by decide)).2.2.2.1 hS hown (hts _ flX2_139) (fun _ h => h) dX2_foresee_26 ?_
    refine lv_iconst (v := -1) hx hb dX2_foresee_29 (by decide) ?_
    refine lv_icmp_eq (tgt := 75) hx hb dX2_foresee_30 (by decide) (fun c => absurd c (m1_ne _ (by omega))) (fun _ => ?_)
    refine lv_aload_n hx hb dX2_foresee_33 rfl (lv_at hl 0 rfl) ?_
    refine lv_dup hx hb dX2_foresee_34 rfl ?_
    refine va_get (D := D) (ci := 2) (v := .int (nI (whN τ))) (C := RX2) (T := TX2) (N := 11) hx hb hts ni2 hown hK hP 8 (cw_c8 cy ad aw σ (ju_rf (ju_rh (ju_rt J (nI (s_n τ))) (nI (whN τ))) (nI (s_m τ)))) rfl 9 (by decide) (hts _ flX2_47) (fun _ h => h) rfl dX2_foresee_35 ?_
    refine lv_aload_n hx hb dX2_foresee_38 rfl (lv_at hl 1 rfl) ?_
    refine vk_getf (v := .int (nI (3))) hx hb (hC.1 4 (by decide)).2.2.2.1 hS hown (hts _ flX2_139) (fun _ h => h) dX2_foresee_39 ?_
    refine cr_so (n := 1) (As := [.int (nI (3))]) (rest := [.int (nI (whN τ)), .ref (ad 8)]) ⟨hx, hb, hml, hown, hts⟩ (k_X8_isHatted l 3 (by omega)) (hts _ mlX2_159) (hts _ smX8_isHatted) (hts _ iniX8) (gc_of cdX8_isHatted) (by decide +kernel) ⟨Nat.le_of_ble_eq_true rfl, Nat.le_of_ble_eq_true rfl⟩ rfl hl.1 rfl (Nat.le_of_ble_eq_true rfl) dX2_foresee_42 ⟨Nat.zero_le _, Nat.zero_le _⟩ ?_
    refine ln_eq (show (bI (decide (3 < 2))) = bI false from by decide) ?_
    refine lb_if_eq (tgt := 57) hx hb dX2_foresee_45 (by decide) (fun _ => ?_) (fun c => absurd c (by decide))
    refine lv_iconst (v := nI 0) hx hb dX2_foresee_57 (by decide) ?_
    refine ln_ior hx hb dX2_foresee_58 ?_
    refine ln_put (ci := 2) (C := RX2) (T := TX2) (N := 11) (ty := .int) (v := .int (nI ((whN τ) ||| 0))) hx hb hts ni2 tyX2 tyX2_ok nmX2 hown hK hP hD hS 8 (cw_c8 cy ad aw σ (ju_rf (ju_rh (ju_rt J (nI (s_n τ))) (nI (whN τ))) (nI (s_m τ)))) rfl 9 (by decide) (hts _ flX2_47) (fun _ h => h) rfl (by decide +kernel) rfl rfl (Nat.le_of_ble_eq_true rfl) ((cp_8_9 cy ad aw σ (ju_rf (ju_rh (ju_rt J (nI (s_n τ))) (nI (whN τ))) (nI (s_m τ))) (nI ((whN τ) ||| 0))).trans (congrArg (fun z => cw cy ad aw σ z) (by rw [jx_rh_rf, jc_rh]))) dX2_foresee_59 (fun H locs hP hD hS => ?_)
    refine lv_aload_n hx hb dX2_foresee_62 rfl (lv_at hl 0 rfl) ?_
    refine lv_dup hx hb dX2_foresee_63 rfl ?_
    refine va_get (D := D) (ci := 2) (v := .int (nI (s_n τ))) (C := RX2) (T := TX2) (N := 11) hx hb hts ni2 hown hK hP 8 (cw_c8 cy ad aw σ (ju_rf (ju_rh (ju_rt J (nI (s_n τ))) (nI ((whN τ) ||| 0))) (nI (s_m τ)))) rfl 8 (by decide) (hts _ flX2_41) (fun _ h => h) rfl dX2_foresee_64 ?_
    refine lv_iconst (v := nI 1) hx hb dX2_foresee_67 (by decide) ?_
    refine ln_iadd hx hb dX2_foresee_68 ?_
    refine ln_put (ci := 2) (C := RX2) (T := TX2) (N := 11) (ty := .int) (v := .int (nI ((s_n τ) + 1))) hx hb hts ni2 tyX2 tyX2_ok nmX2 hown hK hP hD hS 8 (cw_c8 cy ad aw σ (ju_rf (ju_rh (ju_rt J (nI (s_n τ))) (nI ((whN τ) ||| 0))) (nI (s_m τ)))) rfl 8 (by decide) (hts _ flX2_41) (fun _ h => h) rfl (by decide +kernel) rfl rfl (Nat.le_of_ble_eq_true rfl) ((cp_8_8 cy ad aw σ (ju_rf (ju_rh (ju_rt J (nI (s_n τ))) (nI ((whN τ) ||| 0))) (nI (s_m τ))) (nI ((s_n τ) + 1))).trans (congrArg (fun z => cw cy ad aw σ z) (by rw [jx_rt_rf, jx_rt_rh, jc_rt]))) dX2_foresee_69 (fun H locs hP hD hS => ?_)
    refine lv_goto (tgt := 93) hx hb dX2_foresee_72 (by decide) ?_
    exact rw_v hx hb hr hlocks hS () (trivial) (by show va_P D vwCl (cw cy ad aw σ (fsJ (doL τ (wo 4) xs) J)) _; rw [fs_eq (τ := doL τ (wo 4) xs) (J := J) (X := ((s_n τ) + 1)) (Y := ((whN τ) ||| 0)) (Z := (s_m τ)) rfl ((wh_T (k := wo 4) (l := xs) (by decide)).trans (by rw [if_neg (by decide)])) rfl]; exact hP) dX2_foresee_93
  · refine lv_aload_n hx hb dX2_foresee_0 rfl (lv_at hl 1 rfl) ?_
    refine va_gets hx hb (hC.1 0 (by decide)).1 hS hown (hts _ flX2_156) (fun _ h => h) dX2_foresee_1 ?_
    refine lk_acmp_ne (tgt := 25) hx hb dX2_foresee_4 (by decide) (hC.ne (by decide) (by decide) (by decide)) ?_
    refine lv_aload_n hx hb dX2_foresee_25 rfl (lv_at hl 1 rfl) ?_
    refine vk_getf (v := .int (-1)) hx hb (hC.1 5 (by decide)).2.2.2.1 hS hown (hts _ flX2_139) (fun _ h => h) dX2_foresee_26 ?_
    refine lv_iconst (v := -1) hx hb dX2_foresee_29 (by decide) ?_
    refine lv_icmp_eq (tgt := 75) hx hb dX2_foresee_30 (by decide) (fun _ => ?_) (fun c => absurd rfl c)
    refine lv_aload_n hx hb dX2_foresee_75 rfl (lv_at hl 1 rfl) ?_
    refine vk_getf (v := .int (-1)) hx hb (hC.1 5 (by decide)).2.2.2.2 hS hown (hts _ flX2_142) (fun _ h => h) dX2_foresee_76 ?_
    refine lv_iconst (v := -1) hx hb dX2_foresee_79 (by decide) ?_
    refine lv_icmp_eq (tgt := 93) hx hb dX2_foresee_80 (by decide) (fun _ => ?_) (fun c => absurd rfl c)
    exact rw_v hx hb hr hlocks hS () (trivial) (by show va_P D vwCl (cw cy ad aw σ (fsJ (doL τ (wo 5) xs) J)) _; rw [fs_eq (τ := doL τ (wo 5) xs) (J := J) (X := (s_n τ)) (Y := (whN τ)) (Z := (s_m τ)) rfl (wh_8 (k := wo 5) (l := xs) (by decide)) rfl]; exact hP) dX2_foresee_93
  · refine lv_aload_n hx hb dX2_foresee_0 rfl (lv_at hl 1 rfl) ?_
    refine va_gets hx hb (hC.1 0 (by decide)).1 hS hown (hts _ flX2_156) (fun _ h => h) dX2_foresee_1 ?_
    refine lk_acmp_ne (tgt := 25) hx hb dX2_foresee_4 (by decide) (hC.ne (by decide) (by decide) (by decide)) ?_
    refine lv_aload_n hx hb dX2_foresee_25 rfl (lv_at hl 1 rfl) ?_
    refine vk_getf (v := .int (-1)) hx hb (hC.1 6 (by decide)).2.2.2.1 hS hown (hts _ flX2_139) (fun _ h => h) dX2_foresee_26 ?_
    refine lv_iconst (v := -1) hx hb dX2_foresee_29 (by decide) ?_
    refine lv_icmp_eq (tgt := 75) hx hb dX2_foresee_30 (by decide) (fun _ => ?_) (fun c => absurd rfl c)
    refine lv_aload_n hx hb dX2_foresee_75 rfl (lv_at hl 1 rfl) ?_
    refine vk_getf (v := .int (-1)) hx hb (hC.1 6 (by decide)).2.2.2.2 hS hown (hts _ flX2_142) (fun _ h => h) dX2_foresee_76 ?_
    refine lv_iconst (v := -1) hx hb dX2_foresee_79 (by decide) ?_
    refine lv_icmp_eq (tgt := 93) hx hb dX2_foresee_80 (by decide) (fun _ => ?_) (fun c => absurd rfl c)
    exact rw_v hx hb hr hlocks hS () (trivial) (by show va_P D vwCl (cw cy ad aw σ (fsJ (doL τ (wo 6) xs) J)) _; rw [fs_eq (τ := doL τ (wo 6) xs) (J := J) (X := (s_n τ)) (Y := (whN τ)) (Z := (s_m τ)) rfl (wh_8 (k := wo 6) (l := xs) (by decide)) rfl]; exact hP) dX2_foresee_93
  · refine lv_aload_n hx hb dX2_foresee_0 rfl (lv_at hl 1 rfl) ?_
    refine va_gets hx hb (hC.1 0 (by decide)).1 hS hown (hts _ flX2_156) (fun _ h => h) dX2_foresee_1 ?_
    refine lk_acmp_ne (tgt := 25) hx hb dX2_foresee_4 (by decide) (hC.ne (by decide) (by decide) (by decide)) ?_
    refine lv_aload_n hx hb dX2_foresee_25 rfl (lv_at hl 1 rfl) ?_
    refine vk_getf (v := .int (-1)) hx hb (hC.1 7 (by decide)).2.2.2.1 hS hown (hts _ flX2_139) (fun _ h => h) dX2_foresee_26 ?_
    refine lv_iconst (v := -1) hx hb dX2_foresee_29 (by decide) ?_
    refine lv_icmp_eq (tgt := 75) hx hb dX2_foresee_30 (by decide) (fun _ => ?_) (fun c => absurd rfl c)
    refine lv_aload_n hx hb dX2_foresee_75 rfl (lv_at hl 1 rfl) ?_
    refine vk_getf (v := .int (-1)) hx hb (hC.1 7 (by decide)).2.2.2.2 hS hown (hts _ flX2_142) (fun _ h => h) dX2_foresee_76 ?_
    refine lv_iconst (v := -1) hx hb dX2_foresee_79 (by decide) ?_
    refine lv_icmp_eq (tgt := 93) hx hb dX2_foresee_80 (by decide) (fun _ => ?_) (fun c => absurd rfl c)
    exact rw_v hx hb hr hlocks hS () (trivial) (by show va_P D vwCl (cw cy ad aw σ (fsJ (doL τ (wo 7) xs) J)) _; rw [fs_eq (τ := doL τ (wo 7) xs) (J := J) (X := (s_n τ)) (Y := (whN τ)) (Z := (s_m τ)) rfl (wh_8 (k := wo 7) (l := xs) (by decide)) rfl]; exact hP) dX2_foresee_93
  · refine lv_aload_n hx hb dX2_foresee_0 rfl (lv_at hl 1 rfl) ?_
    refine va_gets hx hb (hC.1 0 (by decide)).1 hS hown (hts _ flX2_156) (fun _ h => h) dX2_foresee_1 ?_
    refine lk_acmp_ne (tgt := 25) hx hb dX2_foresee_4 (by decide) (hC.ne (by decide) (by decide) (by decide)) ?_
    refine lv_aload_n hx hb dX2_foresee_25 rfl (lv_at hl 1 rfl) ?_
    refine vk_getf (v := .int (-1)) hx hb (hC.1 8 (by decide)).2.2.2.1 hS hown (hts _ flX2_139) (fun _ h => h) dX2_foresee_26 ?_
    refine lv_iconst (v := -1) hx hb dX2_foresee_29 (by decide) ?_
    refine lv_icmp_eq (tgt := 75) hx hb dX2_foresee_30 (by decide) (fun _ => ?_) (fun c => absurd rfl c)
    refine lv_aload_n hx hb dX2_foresee_75 rfl (lv_at hl 1 rfl) ?_
    refine vk_getf (v := .int (nI (0))) hx hb (hC.1 8 (by decide)).2.2.2.2 hS hown (hts _ flX2_142) (fun _ h => h) dX2_foresee_76 ?_
    refine lv_iconst (v := -1) hx hb dX2_foresee_79 (by decide) ?_
    refine lv_icmp_eq (tgt := 93) hx hb dX2_foresee_80 (by decide) (fun c => absurd c (m1_ne _ (by omega))) (fun _ => ?_)
    refine lv_aload_n hx hb dX2_foresee_83 rfl (lv_at hl 0 rfl) ?_
    refine lv_dup hx hb dX2_foresee_84 rfl ?_
    refine va_get (D := D) (ci := 2) (v := .int (nI (s_m τ))) (C := RX2) (T := TX2) (N := 11) hx hb hts ni2 hown hK hP 8 (cw_c8 cy ad aw σ (ju_rf (ju_rh (ju_rt J (nI (s_n τ))) (nI (whN τ))) (nI (s_m τ)))) rfl 10 (by decide) (hts _ flX2_51) (fun _ h => h) rfl dX2_foresee_85 ?_
    refine lv_iconst (v := nI 1) hx hb dX2_foresee_88 (by decide) ?_
    refine ln_iadd hx hb dX2_foresee_89 ?_
    refine ln_put (ci := 2) (C := RX2) (T := TX2) (N := 11) (ty := .int) (v := .int (nI ((s_m τ) + 1))) hx hb hts ni2 tyX2 tyX2_ok nmX2 hown hK hP hD hS 8 (cw_c8 cy ad aw σ (ju_rf (ju_rh (ju_rt J (nI (s_n τ))) (nI (whN τ))) (nI (s_m τ)))) rfl 10 (by decide) (hts _ flX2_51) (fun _ h => h) rfl (by decide +kernel) rfl rfl (Nat.le_of_ble_eq_true rfl) ((cp_8_10 cy ad aw σ (ju_rf (ju_rh (ju_rt J (nI (s_n τ))) (nI (whN τ))) (nI (s_m τ))) (nI ((s_m τ) + 1))).trans (congrArg (fun z => cw cy ad aw σ z) (by rw [jc_rf]))) dX2_foresee_90 (fun H locs hP hD hS => ?_)
    exact rw_v hx hb hr hlocks hS () (trivial) (by show va_P D vwCl (cw cy ad aw σ (fsJ (doL τ (wo 8) xs) J)) _; rw [fs_eq (τ := doL τ (wo 8) xs) (J := J) (X := (s_n τ)) (Y := (whN τ)) (Z := ((s_m τ) + 1)) rfl (wh_F (k := wo 8) (l := xs) (by decide) (by decide)) rfl]; exact hP) dX2_foresee_93
  · refine lv_aload_n hx hb dX2_foresee_0 rfl (lv_at hl 1 rfl) ?_
    refine va_gets hx hb (hC.1 0 (by decide)).1 hS hown (hts _ flX2_156) (fun _ h => h) dX2_foresee_1 ?_
    refine lk_acmp_ne (tgt := 25) hx hb dX2_foresee_4 (by decide) (hC.ne (by decide) (by decide) (by decide)) ?_
    refine lv_aload_n hx hb dX2_foresee_25 rfl (lv_at hl 1 rfl) ?_
    refine vk_getf (v := .int (-1)) hx hb (hC.1 9 (by decide)).2.2.2.1 hS hown (hts _ flX2_139) (fun _ h => h) dX2_foresee_26 ?_
    refine lv_iconst (v := -1) hx hb dX2_foresee_29 (by decide) ?_
    refine lv_icmp_eq (tgt := 75) hx hb dX2_foresee_30 (by decide) (fun _ => ?_) (fun c => absurd rfl c)
    refine lv_aload_n hx hb dX2_foresee_75 rfl (lv_at hl 1 rfl) ?_
    refine vk_getf (v := .int (nI (1))) hx hb (hC.1 9 (by decide)).2.2.2.2 hS hown (hts _ flX2_142) (fun _ h => h) dX2_foresee_76 ?_
    refine lv_iconst (v := -1) hx hb dX2_foresee_79 (by decide) ?_
    refine lv_icmp_eq (tgt := 93) hx hb dX2_foresee_80 (by decide) (fun c => absurd c (m1_ne _ (by omega))) (fun _ => ?_)
    refine lv_aload_n hx hb dX2_foresee_83 rfl (lv_at hl 0 rfl) ?_
    refine lv_dup hx hb dX2_foresee_84 rfl ?_
    refine va_get (D := D) (ci := 2) (v := .int (nI (s_m τ))) (C := RX2) (T := TX2) (N := 11) hx hb hts ni2 hown hK hP 8 (cw_c8 cy ad aw σ (ju_rf (ju_rh (ju_rt J (nI (s_n τ))) (nI (whN τ))) (nI (s_m τ)))) rfl 10 (by decide) (hts _ flX2_51) (fun _ h => h) rfl dX2_foresee_85 ?_
    refine lv_iconst (v := nI 1) hx hb dX2_foresee_88 (by decide) ?_
    refine ln_iadd hx hb dX2_foresee_89 ?_
    refine ln_put (ci := 2) (C := RX2) (T := TX2) (N := 11) (ty := .int) (v := .int (nI ((s_m τ) + 1))) hx hb hts ni2 tyX2 tyX2_ok nmX2 hown hK hP hD hS 8 (cw_c8 cy ad aw σ (ju_rf (ju_rh (ju_rt J (nI (s_n τ))) (nI (whN τ))) (nI (s_m τ)))) rfl 10 (by decide) (hts _ flX2_51) (fun _ h => h) rfl (by decide +kernel) rfl rfl (Nat.le_of_ble_eq_true rfl) ((cp_8_10 cy ad aw σ (ju_rf (ju_rh (ju_rt J (nI (s_n τ))) (nI (whN τ))) (nI (s_m τ))) (nI ((s_m τ) + 1))).trans (congrArg (fun z => cw cy ad aw σ z) (by rw [jc_rf]))) dX2_foresee_90 (fun H locs hP hD hS => ?_)
    exact rw_v hx hb hr hlocks hS () (trivial) (by show va_P D vwCl (cw cy ad aw σ (fsJ (doL τ (wo 9) xs) J)) _; rw [fs_eq (τ := doL τ (wo 9) xs) (J := J) (X := (s_n τ)) (Y := (whN τ)) (Z := ((s_m τ) + 1)) rfl (wh_F (k := wo 9) (l := xs) (by decide) (by decide)) rfl]; exact hP) dX2_foresee_93
  · refine lv_aload_n hx hb dX2_foresee_0 rfl (lv_at hl 1 rfl) ?_
    refine va_gets hx hb (hC.1 0 (by decide)).1 hS hown (hts _ flX2_156) (fun _ h => h) dX2_foresee_1 ?_
    refine lk_acmp_ne (tgt := 25) hx hb dX2_foresee_4 (by decide) (hC.ne (by decide) (by decide) (by decide)) ?_
    refine lv_aload_n hx hb dX2_foresee_25 rfl (lv_at hl 1 rfl) ?_
    refine vk_getf (v := .int (-1)) hx hb (hC.1 10 (by decide)).2.2.2.1 hS hown (hts _ flX2_139) (fun _ h => h) dX2_foresee_26 ?_
    refine lv_iconst (v := -1) hx hb dX2_foresee_29 (by decide) ?_
    refine lv_icmp_eq (tgt := 75) hx hb dX2_foresee_30 (by decide) (fun _ => ?_) (fun c => absurd rfl c)
    refine lv_aload_n hx hb dX2_foresee_75 rfl (lv_at hl 1 rfl) ?_
    refine vk_getf (v := .int (nI (2))) hx hb (hC.1 10 (by decide)).2.2.2.2 hS hown (hts _ flX2_142) (fun _ h => h) dX2_foresee_76 ?_
    refine lv_iconst (v := -1) hx hb dX2_foresee_79 (by decide) ?_
    refine lv_icmp_eq (tgt := 93) hx hb dX2_foresee_80 (by decide) (fun c => absurd c (m1_ne _ (by omega))) (fun _ => ?_)
    refine lv_aload_n hx hb dX2_foresee_83 rfl (lv_at hl 0 rfl) ?_
    refine lv_dup hx hb dX2_foresee_84 rfl ?_
    refine va_get (D := D) (ci := 2) (v := .int (nI (s_m τ))) (C := RX2) (T := TX2) (N := 11) hx hb hts ni2 hown hK hP 8 (cw_c8 cy ad aw σ (ju_rf (ju_rh (ju_rt J (nI (s_n τ))) (nI (whN τ))) (nI (s_m τ)))) rfl 10 (by decide) (hts _ flX2_51) (fun _ h => h) rfl dX2_foresee_85 ?_
    refine lv_iconst (v := nI 1) hx hb dX2_foresee_88 (by decide) ?_
    refine ln_iadd hx hb dX2_foresee_89 ?_
    refine ln_put (ci := 2) (C := RX2) (T := TX2) (N := 11) (ty := .int) (v := .int (nI ((s_m τ) + 1))) hx hb hts ni2 tyX2 tyX2_ok nmX2 hown hK hP hD hS 8 (cw_c8 cy ad aw σ (ju_rf (ju_rh (ju_rt J (nI (s_n τ))) (nI (whN τ))) (nI (s_m τ)))) rfl 10 (by decide) (hts _ flX2_51) (fun _ h => h) rfl (by decide +kernel) rfl rfl (Nat.le_of_ble_eq_true rfl) ((cp_8_10 cy ad aw σ (ju_rf (ju_rh (ju_rt J (nI (s_n τ))) (nI (whN τ))) (nI (s_m τ))) (nI ((s_m τ) + 1))).trans (congrArg (fun z => cw cy ad aw σ z) (by rw [jc_rf]))) dX2_foresee_90 (fun H locs hP hD hS => ?_)
    exact rw_v hx hb hr hlocks hS () (trivial) (by show va_P D vwCl (cw cy ad aw σ (fsJ (doL τ (wo 10) xs) J)) _; rw [fs_eq (τ := doL τ (wo 10) xs) (J := J) (X := (s_n τ)) (Y := (whN τ)) (Z := ((s_m τ) + 1)) rfl (wh_F (k := wo 10) (l := xs) (by decide) (by decide)) rfl]; exact hP) dX2_foresee_93
