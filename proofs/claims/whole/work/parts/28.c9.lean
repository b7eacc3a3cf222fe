def msI (p : Nat → Bool) (w : Nat → Nat) (i : Nat) : Int32 := match bst p w i with
  | none => -1
  | some b => nI (w b)
def iaI (p : Nat → Bool) (i : Nat) : Int32 := if cntN p i = 0 then -1 else nI (orN p i)
def ilI (p : Nat → Bool) (a i : Nat) : Int32 := if cntN p i = 0 then -1 else nI (andN p a i)
theorem cnt_0 {p : Nat → Bool} : ∀ {i : Nat}, cntN p i = 0 → ∀ j, j < i → p j = false
  | 0, _, j, hj => absurd hj (by omega)
  | i + 1, h, j, hj => by
    have h1 : cntN p (i + 1) = cntN p i + (p i).toNat := rfl
    rcases (show j = i ∨ j < i by omega) with rfl | q
    · cases hp : p j with
      | false => rfl
      | true => rw [hp] at h1; rw [h1] at h; exact absurd h (by simp)
    · exact cnt_0 (by omega) j q
theorem fst_0 {p : Nat → Bool} : ∀ {i : Nat}, (∀ j, j < i → p j = false) → fst p i = none
  | 0, _ => rfl
  | i + 1, h => by rw [fst, fst_0 (fun j hj => h j (by omega))]; simp only [h i (by omega)]; rfl
theorem bst_0 {p : Nat → Bool} {w : Nat → Nat} : ∀ {i : Nat}, (∀ j, j < i → p j = false) → bst p w i = none
  | 0, _ => rfl
  | i + 1, h => by rw [bst, h i (by omega)]; exact bst_0 (fun j hj => h j (by omega))
theorem or_0 {p : Nat → Bool} : ∀ {i : Nat}, (∀ j, j < i → p j = false) → orN p i = 0
  | 0, _ => rfl
  | i + 1, h => by rw [orN, h i (by omega)]; exact or_0 (fun j hj => h j (by omega))
theorem an_0 {p : Nat → Bool} {a : Nat} : ∀ {i : Nat}, (∀ j, j < i → p j = false) → andN p a i = a
  | 0, _ => rfl
  | i + 1, h => by rw [andN, h i (by omega)]; exact an_0 (fun j hj => h j (by omega))
theorem fst_some {p : Nat → Bool} : ∀ {i j : Nat}, j < i → p j = true → ∃ k, fst p i = some k
  | 0, j, hj, _ => absurd hj (by omega)
  | i + 1, j, hj, hp => by
    rw [fst]
    cases hq : fst p i with
    | some k => exact ⟨k, rfl⟩
    | none =>
      rcases (show j = i ∨ j < i by omega) with rfl | q
      · simp only [hp]; exact ⟨j, rfl⟩
      · obtain ⟨k, hk⟩ := fst_some q hp; rw [hq] at hk; cases hk
theorem cnt_pos {p : Nat → Bool} {i : Nat} (h : ¬ cntN p i = 0) : ∃ j, j < i ∧ p j = true := by
  refine Classical.byContradiction (fun hne => h ?_)
  have : ∀ j, j < i → p j = false := fun j hj => Bool.eq_false_iff.mpr (fun q => hne ⟨j, hj, q⟩)
  clear h hne
  induction i with
  | zero => rfl
  | succ i ih =>
    have h1 : cntN p (i + 1) = cntN p i + (p i).toNat := rfl
    rw [h1, ih (fun j hj => this j (by omega)), this i (by omega)]; rfl
theorem sv_le {p : Nat → Bool} {i : Nat} (hp : p i = true) : (if cntN p i = 0 then nI i else oI (fst p i)) = oI (fst p (i + 1)) := by
  by_cases h : cntN p i = 0
  · rw [if_pos h]; exact fst_n1 (fst_0 (cnt_0 h)) hp
  · rw [if_neg h]
    obtain ⟨j, hj, pj⟩ := cnt_pos h
    obtain ⟨k, hk⟩ := fst_some hj pj
    rw [hk]; exact fst_s hk
theorem sv_mw {p : Nat → Bool} {w : Nat → Nat} {i : Nat} (hp : p i = true) (hb : ∀ j, w j < 2 ^ 31) : (if msI p w i < nI (w i) then nI i else oI (bst p w i)) = oI (bst p w (i + 1)) := by
  cases hq : bst p w i with
  | none =>
    have h1 : msI p w i = -1 := by rw [msI, hq]
    rw [h1, if_pos (by rw [Int32.lt_iff_toInt_lt, nI_toInt (hb i)]; have : ((-1 : Int32)).toInt = -1 := rfl; omega)]
    exact bst_n hq hp
  | some b =>
    have h1 : msI p w i = nI (w b) := by rw [msI, hq]
    rw [h1]
    by_cases h : w b < w i
    · rw [if_pos ((nI_ltI (hb b) (hb i)).mpr h)]; exact bst_g hq hp h
    · rw [if_neg (fun q => h ((nI_ltI (hb b) (hb i)).mp q))]; exact bst_l hq hp (by omega)
theorem sv_ms {p : Nat → Bool} {w : Nat → Nat} {i : Nat} (hp : p i = true) (hb : ∀ j, w j < 2 ^ 31) : (if msI p w i < nI (w i) then nI (w i) else msI p w i) = msI p w (i + 1) := by
  cases hq : bst p w i with
  | none =>
    have h1 : msI p w i = -1 := by rw [msI, hq]
    rw [h1, if_pos (by rw [Int32.lt_iff_toInt_lt, nI_toInt (hb i)]; have : ((-1 : Int32)).toInt = -1 := rfl; omega)]
    rw [msI, bst, hq, hp]; rfl
  | some b =>
    have h1 : msI p w i = nI (w b) := by rw [msI, hq]
    rw [h1]
    by_cases h : w b < w i
    · rw [if_pos ((nI_ltI (hb b) (hb i)).mpr h), msI, bst, hq, hp]; simp only [if_pos h]; rfl
    · rw [if_neg (fun q => h ((nI_ltI (hb b) (hb i)).mp q)), msI, bst, hq, hp]; simp only [if_neg h]; rfl
theorem sv_ia {p : Nat → Bool} {i : Nat} (hp : p i = true) : (if cntN p i = 0 then nI i else iaI p i ||| nI i) = iaI p (i + 1) := by
  have h2 : ¬ cntN p (i + 1) = 0 := by rw [← cntN_t hp]; omega
  have e : iaI p (i + 1) = nI (orN p (i + 1)) := by rw [iaI, if_neg h2]
  rw [e, ← or_t hp]
  by_cases h : cntN p i = 0
  · rw [if_pos h, or_0 (cnt_0 h), Nat.zero_or]
  · rw [if_neg h, iaI, if_neg h, nI_or]
theorem sv_il {p : Nat → Bool} {n i : Nat} (hp : p i = true) (hi : i < 2 ^ n) : (if cntN p i = 0 then nI i else ilI p (2 ^ n - 1) i &&& nI i) = ilI p (2 ^ n - 1) (i + 1) := by
  have h2 : ¬ cntN p (i + 1) = 0 := by rw [← cntN_t hp]; omega
  have e : ilI p (2 ^ n - 1) (i + 1) = nI (andN p (2 ^ n - 1) (i + 1)) := by rw [ilI, if_neg h2]
  rw [e, ← an_t hp]
  by_cases h : cntN p i = 0
  · rw [if_pos h, an_0 (cnt_0 h), Nat.and_comm, Nat.and_two_pow_sub_one_of_lt_two_pow hi]
  · rw [if_neg h, ilI, if_neg h, nI_and]
theorem sv_hs {p : Nat → Bool} {i : Nat} {b : Bool} (h : p i = b) : (if b = true then nI (cntN p i) + nI 1 else nI (cntN p i)) = nI (cntN p (i + 1)) := by
  cases b with
  | true => rw [if_pos rfl, nI_add, cntN_t h]
  | false => rw [if_neg (by decide), cntN_f h]
theorem ms_f {p : Nat → Bool} {w : Nat → Nat} {i : Nat} (c : p i = false) : msI p w i = msI p w (i + 1) := by rw [msI, msI, bst, c]; rfl
theorem ia_f {p : Nat → Bool} {i : Nat} (c : p i = false) : iaI p i = iaI p (i + 1) := by rw [iaI, iaI, ← cntN_f c, ← or_f c]
theorem il_f {p : Nat → Bool} {a i : Nat} (c : p i = false) : ilI p a i = ilI p a (i + 1) := by rw [ilI, ilI, ← cntN_f c, ← an_f c]
theorem riN_0 (σ : Sg) (f : Nat) : riN σ f 0 = false := by
  have : hasP σ 0 = false := by
    cases h : hasP σ 0 with
    | false => rfl
    | true =>
      obtain ⟨t, -, ht⟩ := any_ex.mp h
      rw [Nat.zero_testBit] at ht
      cases ht
  rw [riN, isR, board, this]; rfl
theorem ab00 (σ : Sg) (f : Nat) : abP σ f 0 0 = riN σ f := by
  funext x
  rw [abP, decide_eq_true (Nat.zero_and x)]; rfl
def asP (σ : Sg) (f i o x : Nat) : Bool := abP σ f i o x && fit σ f (pdA σ x (s_of σ)) (unA σ x)
theorem as00 (σ : Sg) (f : Nat) : asP σ f 0 0 = suP σ f := by funext x; rw [asP, ab00]; rfl
theorem asP_f {σ : Sg} {f i o x : Nat} (h : abP σ f i o x = false) : asP σ f i o x = false := by rw [asP, h]; rfl
theorem asP_t {σ : Sg} {f i o x : Nat} (h : abP σ f i o x = true) : asP σ f i o x = fit σ f (pdA σ x (s_of σ)) (unA σ x) := by rw [asP, h]; rfl
theorem ab_0 (σ : Sg) (f i o : Nat) : abP σ f i o 0 = false := by rw [abP, riN_0, Bool.and_false]
theorem ab_t {σ : Sg} {f i o x : Nat} (a : x &&& i = i) (b : x &&& o = 0) (c : isR σ f x (s_ov σ) (s_mo σ) (s_of σ) = true) : abP σ f i o x = true := by rw [abP, riN, c, Nat.and_comm i x, Nat.and_comm o x, decide_eq_true a, decide_eq_true b]; rfl
theorem ab_f1 {σ : Sg} {f i o x : Nat} (a : ¬ x &&& i = i) : abP σ f i o x = false := by rw [abP, Nat.and_comm i x, decide_eq_false a]; rfl
theorem ab_f2 {σ : Sg} {f i o x : Nat} (b : 0 < x &&& o) : abP σ f i o x = false := by rw [abP, Nat.and_comm o x, decide_eq_false (show ¬ x &&& o = 0 by omega), Bool.and_false]; rfl
theorem ab_f3 {σ : Sg} {f i o x : Nat} (c : isR σ f x (s_ov σ) (s_mo σ) (s_of σ) = false) : abP σ f i o x = false := by rw [abP, riN, c, Bool.and_false]
theorem wfJ_sv {σ : Sg} {J : Js} (hj : wfJ σ J) (a1 a2 a3 a4 a5 a6 a7 : Int32) : wfJ σ (ju_il (ju_ia (ju_ms (ju_mw (ju_le (ju_hs (ju_hm J a1) a2) a3) a4) a5) a6) a7) := by
  obtain ⟨h1, h2, h3, h4⟩ := hj
  unfold wfJ
  dsimp only [ju_il, ju_ia, ju_ms, ju_mw, ju_le, ju_hs, ju_hm, j_pe, j_wh, j_us, j_pb]
  exact ⟨h1, h2, h3, h4⟩
set_option maxHeartbeats 4000000 in
set_option maxRecDepth 100000 in
theorem k_X6_take (l : Launch) (D : va_G) (cy : Nat → ClassId) (ad aw : Nat → Nat) (σ : Sg) (J : Js) (cn x wi : Nat) (sr : Bool) (hs le mw ms ia il : Int32) (hc3 : cn < 2 ^ 30) : MV l yX6_take qX6_take 0 [.ref (ad 10), .int (nI (x)), .int (nI (wi)), .int (bI (sr))] D cy (cw cy ad aw σ (ju_il (ju_ia (ju_ms (ju_mw (ju_le (ju_hs (ju_hm J (nI cn)) hs) le) mw) ms) ia) il)) (fun _ : Unit => True) (fun _ : Unit => cw cy ad aw σ (ju_il (ju_ia (ju_ms (ju_mw (ju_le (ju_hs (ju_hm J (nI (cn + 1))) (if sr = true then hs + nI 1 else hs)) (if cn = 0 then nI x else le)) (if ms < nI wi then nI x else mw)) (if ms < nI wi then nI wi else ms)) (if cn = 0 then nI x else ia ||| nI x)) (if cn = 0 then nI x else il &&& nI x))) := by
  intro sz
  refine Met.ofW (cc := cX6_take) (maxL := 4) (ret := none) (by decide) rfl ?_
  intro p e s m args below meth c s₁ B hml hv
  obtain ⟨rfl, rfl, hP, hK, hN, hD0⟩ := hv
  have hx := B.exec
  have hb := B.bytes
  have hr := B.returns
  have hlocks := B.notSynchronized
  have hts : ∀ cq ∈ tg, cq.before ([.ref (ad 10), .int (nI (x)), .int (nI (wi)), .int (bI (sr))] : List Value).toArray s = true := fun cq h => atoms_spec (ws := qX6_take) B.pre cq (List.mem_cons_of_mem _ h)
  have hown : s.vm.findClass RX6 = some m.cls := findClass_of_methodNamed B.named
  have hD := hD0.self (sz := s.heap.size)
  generalize hAe : va_A (cw cy ad aw σ (ju_il (ju_ia (ju_ms (ju_mw (ju_le (ju_hs (ju_hm J (nI cn)) hs) le) mw) ms) ia) il)) s.heap.size = A at hD ⊢
  have hA : ∀ q : Nat, s.heap.size ≤ q → A q := fun q h => by rw [← hAe]; exact Or.inr h
  have hS : va_S A s.heap s.heap [] := va_S.rf
  have hl := lv_entry ([.ref (ad 10), .int (nI (x)), .int (nI (wi)), .int (bI (sr))]) (n := 4) (Nat.le_of_ble_eq_true rfl)
  rw [lg_entry_eq]
  generalize (lg_sl ([.ref (ad 10), .int (nI (x)), .int (nI (wi)), .int (bI (sr))]) ++ List.replicate (4 - (lg_sl ([.ref (ad 10), .int (nI (x)), .int (nI (wi)), .int (bI (sr))])).length) Slot.unset).toArray = ls at hl ⊢
  have hl : lv_has ls 4 [(0, .ref (ad 10)), (1, .int (nI (x))), (2, .int (nI (wi))), (3, .int (bI (sr)))] := hl
  rcases Nat.eq_zero_or_pos cn with rfl | hc
  · refine lv_aload_n hx hb dX6_take_0 rfl (lv_at hl 0 rfl) ?_
    refine va_get (D := D) (ci := 6) (v := .int (nI (0))) (C := RX6) (T := TX6) (N := 8) hx hb hts ni6 hown hK hP 10 (cw_c10 cy ad aw σ (ju_il (ju_ia (ju_ms (ju_mw (ju_le (ju_hs (ju_hm J (nI 0)) hs) le) mw) ms) ia) il)) rfl 1 (by decide) (hts _ flX6_15) (fun _ h => h) rfl dX6_take_1 ?_
    refine lv_if_ne (tgt := 12) hx hb dX6_take_4 (by decide) (fun c => absurd rfl c) (fun _ => ?_)
    refine lv_aload_n hx hb dX6_take_7 rfl (lv_at hl 0 rfl) ?_
    refine lv_iload_n hx hb dX6_take_8 rfl (lv_at hl 1 rfl) ?_
    refine ln_put (ci := 6) (C := RX6) (T := TX6) (N := 8) (ty := .int) (v := .int (nI (x))) hx hb hts ni6 tyX6 tyX6_ok nmX6 hown hK hP hD hS 10 (cw_c10 cy ad aw σ (ju_il (ju_ia (ju_ms (ju_mw (ju_le (ju_hs (ju_hm J (nI 0)) hs) le) mw) ms) ia) il)) rfl 3 (by decide) (hts _ flX6_22) (fun _ h => h) rfl (by decide +kernel) rfl rfl (Nat.le_of_ble_eq_true rfl) ((cp_10_3 cy ad aw σ (ju_il (ju_ia (ju_ms (ju_mw (ju_le (ju_hs (ju_hm J (nI 0)) hs) le) mw) ms) ia) il) (nI (x))).trans (congrArg (fun z => cw cy ad aw σ z) (by rw [jx_le_il, jx_le_ia, jx_le_ms, jx_le_mw, jc_le]))) dX6_take_9 (fun H locs hP hD hS => ?_)
    refine lv_iload_n hx hb dX6_take_12 rfl (lv_at hl 2 rfl) ?_
    refine lv_aload_n hx hb dX6_take_13 rfl (lv_at hl 0 rfl) ?_
    refine va_get (D := D) (ci := 6) (v := .int (ms)) (C := RX6) (T := TX6) (N := 8) hx hb hts ni6 hown hK hP 10 (cw_c10 cy ad aw σ (ju_il (ju_ia (ju_ms (ju_mw (ju_le (ju_hs (ju_hm J (nI 0)) hs) (nI (x))) mw) ms) ia) il)) rfl 5 (by decide) (hts _ flX6_28) (fun _ h => h) rfl dX6_take_14 ?_
    refine lv_icmp_le (tgt := 30) hx hb dX6_take_17 (by decide) (fun c17 => ?_) (fun c17 => ?_)
    · refine lv_aload_n hx hb dX6_take_30 rfl (lv_at hl 0 rfl) ?_
      refine lv_aload_n hx hb dX6_take_31 rfl (lv_at hl 0 rfl) ?_
      refine va_get (D := D) (ci := 6) (v := .int (nI (0))) (C := RX6) (T := TX6) (N := 8) hx hb hts ni6 hown hK hP 10 (cw_c10 cy ad aw σ (ju_il (ju_ia (ju_ms (ju_mw (ju_le (ju_hs (ju_hm J (nI 0)) hs) (nI (x))) mw) ms) ia) il)) rfl 1 (by decide) (hts _ flX6_15) (fun _ h => h) rfl dX6_take_32 ?_
      refine lv_if_ne (tgt := 42) hx hb dX6_take_35 (by decide) (fun c => absurd rfl c) (fun _ => ?_)
      refine lv_iload_n hx hb dX6_take_38 rfl (lv_at hl 1 rfl) ?_
      refine lv_goto (tgt := 48) hx hb dX6_take_39 (by decide) ?_
      refine ln_put (ci := 6) (C := RX6) (T := TX6) (N := 8) (ty := .int) (v := .int (nI (x))) hx hb hts ni6 tyX6 tyX6_ok nmX6 hown hK hP hD hS 10 (cw_c10 cy ad aw σ (ju_il (ju_ia (ju_ms (ju_mw (ju_le (ju_hs (ju_hm J (nI 0)) hs) (nI (x))) mw) ms) ia) il)) rfl 6 (by decide) (hts _ flX6_31) (fun _ h => h) rfl (by decide +kernel) rfl rfl (Nat.le_of_ble_eq_true rfl) ((cp_10_6 cy ad aw σ (ju_il (ju_ia (ju_ms (ju_mw (ju_le (ju_hs (ju_hm J (nI 0)) hs) (nI (x))) mw) ms) ia) il) (nI (x))).trans (congrArg (fun z => cw cy ad aw σ z) (by rw [jx_ia_il, jc_ia]))) dX6_take_48 (fun H locs hP hD hS => ?_)
      refine lv_aload_n hx hb dX6_take_51 rfl (lv_at hl 0 rfl) ?_
      refine lv_aload_n hx hb dX6_take_52 rfl (lv_at hl 0 rfl) ?_
      refine va_get (D := D) (ci := 6) (v := .int (nI (0))) (C := RX6) (T := TX6) (N := 8) hx hb hts ni6 hown hK hP 10 (cw_c10 cy ad aw σ (ju_il (ju_ia (ju_ms (ju_mw (ju_le (ju_hs (ju_hm J (nI 0)) hs) (nI (x))) mw) ms) (nI (x))) il)) rfl 1 (by decide) (hts _ flX6_15) (fun _ h => h) rfl dX6_take_53 ?_
      refine lv_if_ne (tgt := 63) hx hb dX6_take_56 (by decide) (fun c => absurd rfl c) (fun _ => ?_)
      refine lv_iload_n hx hb dX6_take_59 rfl (lv_at hl 1 rfl) ?_
      refine lv_goto (tgt := 69) hx hb dX6_take_60 (by decide) ?_
      refine ln_put (ci := 6) (C := RX6) (T := TX6) (N := 8) (ty := .int) (v := .int (nI (x))) hx hb hts ni6 tyX6 tyX6_ok nmX6 hown hK hP hD hS 10 (cw_c10 cy ad aw σ (ju_il (ju_ia (ju_ms (ju_mw (ju_le (ju_hs (ju_hm J (nI 0)) hs) (nI (x))) mw) ms) (nI (x))) il)) rfl 7 (by decide) (hts _ flX6_34) (fun _ h => h) rfl (by decide +kernel) rfl rfl (Nat.le_of_ble_eq_true rfl) ((cp_10_7 cy ad aw σ (ju_il (ju_ia (ju_ms (ju_mw (ju_le (ju_hs (ju_hm J (nI 0)) hs) (nI (x))) mw) ms) (nI (x))) il) (nI (x))).trans (congrArg (fun z => cw cy ad aw σ z) (by rw [jc_il]))) dX6_take_69 (fun H locs hP hD hS => ?_)
      refine lv_aload_n hx hb dX6_take_72 rfl (lv_at hl 0 rfl) ?_
      refine lv_dup hx hb dX6_take_73 rfl ?_
      refine va_get (D := D) (ci := 6) (v := .int (nI (0))) (C := RX6) (T := TX6) (N := 8) hx hb hts ni6 hown hK hP 10 (cw_c10 cy ad aw σ (ju_il (ju_ia (ju_ms (ju_mw (ju_le (ju_hs (ju_hm J (nI 0)) hs) (nI (x))) mw) ms) (nI (x))) (nI (x)))) rfl 1 (by decide) (hts _ flX6_15) (fun _ h => h) rfl dX6_take_74 ?_
      refine lv_iconst (v := nI 1) hx hb dX6_take_77 (by decide) ?_
      refine ln_iadd hx hb dX6_take_78 ?_
      refine ln_put (ci := 6) (C := RX6) (T := TX6) (N := 8) (ty := .int) (v := .int (nI (0 + 1))) hx hb hts ni6 tyX6 tyX6_ok nmX6 hown hK hP hD hS 10 (cw_c10 cy ad aw σ (ju_il (ju_ia (ju_ms (ju_mw (ju_le (ju_hs (ju_hm J (nI 0)) hs) (nI (x))) mw) ms) (nI (x))) (nI (x)))) rfl 1 (by decide) (hts _ flX6_15) (fun _ h => h) rfl (by decide +kernel) rfl rfl (Nat.le_of_ble_eq_true rfl) ((cp_10_1 cy ad aw σ (ju_il (ju_ia (ju_ms (ju_mw (ju_le (ju_hs (ju_hm J (nI 0)) hs) (nI (x))) mw) ms) (nI (x))) (nI (x))) (nI (0 + 1))).trans (congrArg (fun z => cw cy ad aw σ z) (by rw [jx_hm_il, jx_hm_ia, jx_hm_ms, jx_hm_mw, jx_hm_le, jx_hm_hs, jc_hm]))) dX6_take_79 (fun H locs hP hD hS => ?_)
      refine lv_iload_n hx hb dX6_take_82 rfl (lv_at hl 3 rfl) ?_
      refine lb_if_eq (tgt := 96) hx hb dX6_take_83 (by decide) (fun c83 => ?_) (fun c83 => ?_)
      · exact rw_v hx hb hr hlocks hS () (trivial) (by show va_P D vwCl (cw cy ad aw σ (ju_il (ju_ia (ju_ms (ju_mw (ju_le (ju_hs (ju_hm J (nI (0 + 1))) (if sr = true then hs + nI 1 else hs)) (if 0 = 0 then nI x else le)) (if ms < nI wi then nI x else mw)) (if ms < nI wi then nI wi else ms)) (if 0 = 0 then nI x else ia ||| nI x)) (if 0 = 0 then nI x else il &&& nI x))) _; simp only [reduceIte]; first | (rw [if_pos (Int32.not_le.mp c17), if_pos (Int32.not_le.mp c17), if_pos c83]; exact hP) | (rw [if_pos (Int32.not_le.mp c17), if_pos (Int32.not_le.mp c17), if_neg (by rw [c83]; decide)]; exact hP) | (rw [if_neg (Int32.not_lt.mpr c17), if_neg (Int32.not_lt.mpr c17), if_pos c83]; exact hP) | (rw [if_neg (Int32.not_lt.mpr c17), if_neg (Int32.not_lt.mpr c17), if_neg (by rw [c83]; decide)]; exact hP)) dX6_take_96
      · refine lv_aload_n hx hb dX6_take_86 rfl (lv_at hl 0 rfl) ?_
        refine lv_dup hx hb dX6_take_87 rfl ?_
        refine va_get (D := D) (ci := 6) (v := .int (hs)) (C := RX6) (T := TX6) (N := 8) hx hb hts ni6 hown hK hP 10 (cw_c10 cy ad aw σ (ju_il (ju_ia (ju_ms (ju_mw (ju_le (ju_hs (ju_hm J (nI (0 + 1))) hs) (nI (x))) mw) ms) (nI (x))) (nI (x)))) rfl 2 (by decide) (hts _ flX6_19) (fun _ h => h) rfl dX6_take_88 ?_
        refine lv_iconst (v := nI 1) hx hb dX6_take_91 (by decide) ?_
        refine lv_iadd hx hb dX6_take_92 ?_
        refine ln_put (ci := 6) (C := RX6) (T := TX6) (N := 8) (ty := .int) (v := .int ((hs) + (nI (1)))) hx hb hts ni6 tyX6 tyX6_ok nmX6 hown hK hP hD hS 10 (cw_c10 cy ad aw σ (ju_il (ju_ia (ju_ms (ju_mw (ju_le (ju_hs (ju_hm J (nI (0 + 1))) hs) (nI (x))) mw) ms) (nI (x))) (nI (x)))) rfl 2 (by decide) (hts _ flX6_19) (fun _ h => h) rfl (by decide +kernel) rfl rfl (Nat.le_of_ble_eq_true rfl) ((cp_10_2 cy ad aw σ (ju_il (ju_ia (ju_ms (ju_mw (ju_le (ju_hs (ju_hm J (nI (0 + 1))) hs) (nI (x))) mw) ms) (nI (x))) (nI (x))) ((hs) + (nI (1)))).trans (congrArg (fun z => cw cy ad aw σ z) (by rw [jx_hs_il, jx_hs_ia, jx_hs_ms, jx_hs_mw, jx_hs_le, jc_hs]))) dX6_take_93 (fun H locs hP hD hS => ?_)
        exact rw_v hx hb hr hlocks hS () (trivial) (by show va_P D vwCl (cw cy ad aw σ (ju_il (ju_ia (ju_ms (ju_mw (ju_le (ju_hs (ju_hm J (nI (0 + 1))) (if sr = true then hs + nI 1 else hs)) (if 0 = 0 then nI x else le)) (if ms < nI wi then nI x else mw)) (if ms < nI wi then nI wi else ms)) (if 0 = 0 then nI x else ia ||| nI x)) (if 0 = 0 then nI x else il &&& nI x))) _; simp only [reduceIte]; first | (rw [if_pos (Int32.not_le.mp c17), if_pos (Int32.not_le.mp c17), if_pos c83]; exact hP) | (rw [if_pos (Int32.not_le.mp c17), if_pos (Int32.not_le.mp c17), if_neg (by rw [c83]; decide)]; exact hP) | (rw [if_neg (Int32.not_lt.mpr c17), if_neg (Int32.not_lt.mpr c17), if_pos c83]; exact hP) | (rw [if_neg (Int32.not_lt.mpr c17), if_neg (Int32.not_lt.mpr c17), if_neg (by rw [c83]; decide)]; exact hP)) dX6_take_96
    · refine lv_aload_n hx hb dX6_take_20 rfl (lv_at hl 0 rfl) ?_
      refine lv_iload_n hx hb dX6_take_21 rfl (lv_at hl 1 rfl) ?_
      refine ln_put (ci := 6) (C := RX6) (T := TX6) (N := 8) (ty := .int) (v := .int (nI (x))) hx hb hts ni6 tyX6 tyX6_ok nmX6 hown hK hP hD hS 10 (cw_c10 cy ad aw σ (ju_il (ju_ia (ju_ms (ju_mw (ju_le (ju_hs (ju_hm J (nI 0)) hs) (nI (x))) mw) ms) ia) il)) rfl 4 (by decide) (hts _ flX6_25) (fun _ h => h) rfl (by decide +kernel) rfl rfl (Nat.le_of_ble_eq_true rfl) ((cp_10_4 cy ad aw σ (ju_il (ju_ia (ju_ms (ju_mw (ju_le (ju_hs (ju_hm J (nI 0)) hs) (nI (x))) mw) ms) ia) il) (nI (x))).trans (congrArg (fun z => cw cy ad aw σ z) (by rw [jx_mw_il, jx_mw_ia, jx_mw_ms, jc_mw]))) dX6_take_22 (fun H locs hP hD hS => ?_)
      refine lv_aload_n hx hb dX6_take_25 rfl (lv_at hl 0 rfl) ?_
      refine lv_iload_n hx hb dX6_take_26 rfl (lv_at hl 2 rfl) ?_
      refine ln_put (ci := 6) (C := RX6) (T := TX6) (N := 8) (ty := .int) (v := .int (nI (wi))) hx hb hts ni6 tyX6 tyX6_ok nmX6 hown hK hP hD hS 10 (cw_c10 cy ad aw σ (ju_il (ju_ia (ju_ms (ju_mw (ju_le (ju_hs (ju_hm J (nI 0)) hs) (nI (x))) (nI (x))) ms) ia) il)) rfl 5 (by decide) (hts _ flX6_28) (fun _ h => h) rfl (by decide +kernel) rfl rfl (Nat.le_of_ble_eq_true rfl) ((cp_10_5 cy ad aw σ (ju_il (ju_ia (ju_ms (ju_mw (ju_le (ju_hs (ju_hm J (nI 0)) hs) (nI (x))) (nI (x))) ms) ia) il) (nI (wi))).trans (congrArg (fun z => cw cy ad aw σ z) (by rw [jx_ms_il, jx_ms_ia, jc_ms]))) dX6_take_27 (fun H locs hP hD hS => ?_)
      refine lv_aload_n hx hb dX6_take_30 rfl (lv_at hl 0 rfl) ?_
      refine lv_aload_n hx hb dX6_take_31 rfl (lv_at hl 0 rfl) ?_
      refine va_get (D := D) (ci := 6) (v := .int (nI (0))) (C := RX6) (T := TX6) (N := 8) hx hb hts ni6 hown hK hP 10 (cw_c10 cy ad aw σ (ju_il (ju_ia (ju_ms (ju_mw (ju_le (ju_hs (ju_hm J (nI 0)) hs) (nI (x))) (nI (x))) (nI (wi))) ia) il)) rfl 1 (by decide) (hts _ flX6_15) (fun _ h => h) rfl dX6_take_32 ?_
      refine lv_if_ne (tgt := 42) hx hb dX6_take_35 (by decide) (fun c => absurd rfl c) (fun _ => ?_)
      refine lv_iload_n hx hb dX6_take_38 rfl (lv_at hl 1 rfl) ?_
      refine lv_goto (tgt := 48) hx hb dX6_take_39 (by decide) ?_
      refine ln_put (ci := 6) (C := RX6) (T := TX6) (N := 8) (ty := .int) (v := .int (nI (x))) hx hb hts ni6 tyX6 tyX6_ok nmX6 hown hK hP hD hS 10 (cw_c10 cy ad aw σ (ju_il (ju_ia (ju_ms (ju_mw (ju_le (ju_hs (ju_hm J (nI 0)) hs) (nI (x))) (nI (x))) (nI (wi))) ia) il)) rfl 6 (by decide) (hts _ flX6_31) (fun _ h => h) rfl (by decide +kernel) rfl rfl (Nat.le_of_ble_eq_true rfl) ((cp_10_6 cy ad aw σ (ju_il (ju_ia (ju_ms (ju_mw (ju_le (ju_hs (ju_hm J (nI 0)) hs) (nI (x))) (nI (x))) (nI (wi))) ia) il) (nI (x))).trans (congrArg (fun z => cw cy ad aw σ z) (by rw [jx_ia_il, jc_ia]))) dX6_take_48 (fun H locs hP hD hS => ?_)
      refine lv_aload_n hx hb dX6_take_51 rfl (lv_at hl 0 rfl) ?_
      refine lv_aload_n hx hb dX6_take_52 rfl (lv_at hl 0 rfl) ?_
      refine va_get (D := D) (ci := 6) (v := .int (nI (0))) (C := RX6) (T := TX6) (N := 8) hx hb hts ni6 hown hK hP 10 (cw_c10 cy ad aw σ (ju_il (ju_ia (ju_ms (ju_mw (ju_le (ju_hs (ju_hm J (nI 0)) hs) (nI (x))) (nI (x))) (nI (wi))) (nI (x))) il)) rfl 1 (by decide) (hts _ flX6_15) (fun _ h => h) rfl dX6_take_53 ?_
      refine lv_if_ne (tgt := 63) hx hb dX6_take_56 (by decide) (fun c => absurd rfl c) (fun _ => ?_)
      refine lv_iload_n hx hb dX6_take_59 rfl (lv_at hl 1 rfl) ?_
      refine lv_goto (tgt := 69) hx hb dX6_take_60 (by decide) ?_
      refine ln_put (ci := 6) (C := RX6) (T := TX6) (N := 8) (ty := .int) (v := .int (nI (x))) hx hb hts ni6 tyX6 tyX6_ok nmX6 hown hK hP hD hS 10 (cw_c10 cy ad aw σ (ju_il (ju_ia (ju_ms (ju_mw (ju_le (ju_hs (ju_hm J (nI 0)) hs) (nI (x))) (nI (x))) (nI (wi))) (nI (x))) il)) rfl 7 (by decide) (hts _ flX6_34) (fun _ h => h) rfl (by decide +kernel) rfl rfl (Nat.le_of_ble_eq_true rfl) ((cp_10_7 cy ad aw σ (ju_il (ju_ia (ju_ms (ju_mw (ju_le (ju_hs (ju_hm J (nI 0)) hs) (nI (x))) (nI (x))) (nI (wi))) (nI (x))) il) (nI (x))).trans (congrArg (fun z => cw cy ad aw σ z) (by rw [jc_il]))) dX6_take_69 (fun H locs hP hD hS => ?_)
      refine lv_aload_n hx hb dX6_take_72 rfl (lv_at hl 0 rfl) ?_
      refine lv_dup hx hb dX6_take_73 rfl ?_
      refine va_get (D := D) (ci := 6) (v := .int (nI (0))) (C := RX6) (T := TX6) (N := 8) hx hb hts ni6 hown hK hP 10 (cw_c10 cy ad aw σ (ju_il (ju_ia (ju_ms (ju_mw (ju_le (ju_hs (ju_hm J (nI 0)) hs) (nI (x))) (nI (x))) (nI (wi))) (nI (x))) (nI (x)))) rfl 1 (by decide) (hts _ flX6_15) (fun _ h => h) rfl dX6_take_74 ?_
      refine lv_iconst (v := nI 1) hx hb dX6_take_77 (by decide) ?_
      refine ln_iadd hx hb dX6_take_78 ?_
      refine ln_put (ci := 6) (C := RX6) (T := TX6) (N := 8) (ty := .int) (v := .int (nI (0 + 1))) hx hb hts ni6 tyX6 tyX6_ok nmX6 hown hK hP hD hS 10 (cw_c10 cy ad aw σ (ju_il (ju_ia (ju_ms (ju_mw (ju_le (ju_hs (ju_hm J (nI 0)) hs) (nI (x))) (nI (x))) (nI (wi))) (nI (x))) (nI (x)))) rfl 1 (by decide) (hts _ flX6_15) (fun _ h => h) rfl (by decide +kernel) rfl rfl (Nat.le_of_ble_eq_true rfl) ((cp_10_1 cy ad aw σ (ju_il (ju_ia (ju_ms (ju_mw (ju_le (ju_hs (ju_hm J (nI 0)) hs) (nI (x))) (nI (x))) (nI (wi))) (nI (x))) (nI (x))) (nI (0 + 1))).trans (congrArg (fun z => cw cy ad aw σ z) (by rw [jx_hm_il, jx_hm_ia, jx_hm_ms, jx_hm_mw, jx_hm_le, jx_hm_hs, jc_hm]))) dX6_take_79 (fun H locs hP hD hS => ?_)
      refine lv_iload_n hx hb dX6_take_82 rfl (lv_at hl 3 rfl) ?_
      refine lb_if_eq (tgt := 96) hx hb dX6_take_83 (by decide) (fun c83 => ?_) (fun c83 => ?_)
      · exact rw_v hx hb hr hlocks hS () (trivial) (by show va_P D vwCl (cw cy ad aw σ (ju_il (ju_ia (ju_ms (ju_mw (ju_le (ju_hs (ju_hm J (nI (0 + 1))) (if sr = true then hs + nI 1 else hs)) (if 0 = 0 then nI x else le)) (if ms < nI wi then nI x else mw)) (if ms < nI wi then nI wi else ms)) (if 0 = 0 then nI x else ia ||| nI x)) (if 0 = 0 then nI x else il &&& nI x))) _; simp only [reduceIte]; first | (rw [if_pos (Int32.not_le.mp c17), if_pos (Int32.not_le.mp c17), if_pos c83]; exact hP) | (rw [if_pos (Int32.not_le.mp c17), if_pos (Int32.not_le.mp c17), if_neg (by rw [c83]; decide)]; exact hP) | (rw [if_neg (Int32.not_lt.mpr c17), if_neg (Int32.not_lt.mpr c17), if_pos c83]; exact hP) | (rw [if_neg (Int32.not_lt.mpr c17), if_neg (Int32.not_lt.mpr c17), if_neg (by rw [c83]; decide)]; exact hP)) dX6_take_96
      · refine lv_aload_n hx hb dX6_take_86 rfl (lv_at hl 0 rfl) ?_
        refine lv_dup hx hb dX6_take_87 rfl ?_
        refine va_get (D := D) (ci := 6) (v := .int (hs)) (C := RX6) (T := TX6) (N := 8) hx hb hts ni6 hown hK hP 10 (cw_c10 cy ad aw σ (ju_il (ju_ia (ju_ms (ju_mw (ju_le (ju_hs (ju_hm J (nI (0 + 1))) hs) (nI (x))) (nI (x))) (nI (wi))) (nI (x))) (nI (x)))) rfl 2 (by decide) (hts _ flX6_19) (fun _ h => h) rfl dX6_take_88 ?_
        refine lv_iconst (v := nI 1) hx hb dX6_take_91 (by decide) ?_
        refine lv_iadd hx hb dX6_take_92 ?_
        refine ln_put (ci := 6) (C := RX6) (T := TX6) (N := 8) (ty := .int) (v := .int ((hs) + (nI (1)))) hx hb hts ni6 tyX6 tyX6_ok nmX6 hown hK hP hD hS 10 (cw_c10 cy ad aw σ (ju_il (ju_ia (ju_ms (ju_mw (ju_le (ju_hs (ju_hm J (nI (0 + 1))) hs) (nI (x))) (nI (x))) (nI (wi))) (nI (x))) (nI (x)))) rfl 2 (by decide) (hts _ flX6_19) (fun _ h => h) rfl (by decide +kernel) rfl rfl (Nat.le_of_ble_eq_true rfl) ((cp_10_2 cy ad aw σ (ju_il (ju_ia (ju_ms (ju_mw (ju_le (ju_hs (ju_hm J (nI (0 + 1))) hs) (nI (x))) (nI (x))) (nI (wi))) (nI (x))) (nI (x))) ((hs) + (nI (1)))).trans (congrArg (fun z => cw cy ad aw σ z) (by rw [jx_hs_il, jx_hs_ia, jx_hs_ms, jx_hs_mw, jx_hs_le, jc_hs]))) dX6_take_93 (fun H locs hP hD hS => ?_)
        exact rw_v hx hb hr hlocks hS () (trivial) (by show va_P D vwCl (cw cy ad aw σ (ju_il (ju_ia (ju_ms (ju_mw (ju_le (ju_hs (ju_hm J (nI (0 + 1))) (if sr = true then hs + nI 1 else hs)) (if 0 = 0 then nI x else le)) (if ms < nI wi then nI x else mw)) (if ms < nI wi then nI wi else ms)) (if 0 = 0 then nI x else ia ||| nI x)) (if 0 = 0 then nI x else il &&& nI x))) _; simp only [reduceIte]; first | (rw [if_pos (Int32.not_le.mp c17), if_pos (Int32.not_le.mp c17), if_pos c83]; exact hP) | (rw [if_pos (Int32.not_le.mp c17), if_pos (Int32.not_le.mp c17), if_neg (by rw [c83]; decide)]; exact hP) | (rw [if_neg (Int32.not_lt.mpr c17), if_neg (Int32.not_lt.mpr c17), if_pos c83]; exact hP) | (rw [if_neg (Int32.not_lt.mpr c17), if_neg (Int32.not_lt.mpr c17), if_neg (by rw [c83]; decide)]; exact hP)) dX6_take_96
  · refine lv_aload_n hx hb dX6_take_0 rfl (lv_at hl 0 rfl) ?_
    refine va_get (D := D) (ci := 6) (v := .int (nI (cn))) (C := RX6) (T := TX6) (N := 8) hx hb hts ni6 hown hK hP 10 (cw_c10 cy ad aw σ (ju_il (ju_ia (ju_ms (ju_mw (ju_le (ju_hs (ju_hm J (nI cn)) hs) le) mw) ms) ia) il)) rfl 1 (by decide) (hts _ flX6_15) (fun _ h => h) rfl dX6_take_1 ?_
    refine ln_if_ne (tgt := 12) hx hb dX6_take_4 (by decide) (by omega) (fun c4 => ?_) (fun c4 => ?_)
    · refine lv_iload_n hx hb dX6_take_12 rfl (lv_at hl 2 rfl) ?_
      refine lv_aload_n hx hb dX6_take_13 rfl (lv_at hl 0 rfl) ?_
      refine va_get (D := D) (ci := 6) (v := .int (ms)) (C := RX6) (T := TX6) (N := 8) hx hb hts ni6 hown hK hP 10 (cw_c10 cy ad aw σ (ju_il (ju_ia (ju_ms (ju_mw (ju_le (ju_hs (ju_hm J (nI cn)) hs) le) mw) ms) ia) il)) rfl 5 (by decide) (hts _ flX6_28) (fun _ h => h) rfl dX6_take_14 ?_
      refine lv_icmp_le (tgt := 30) hx hb dX6_take_17 (by decide) (fun c17 => ?_) (fun c17 => ?_)
      · refine lv_aload_n hx hb dX6_take_30 rfl (lv_at hl 0 rfl) ?_
        refine lv_aload_n hx hb dX6_take_31 rfl (lv_at hl 0 rfl) ?_
        refine va_get (D := D) (ci := 6) (v := .int (nI (cn))) (C := RX6) (T := TX6) (N := 8) hx hb hts ni6 hown hK hP 10 (cw_c10 cy ad aw σ (ju_il (ju_ia (ju_ms (ju_mw (ju_le (ju_hs (ju_hm J (nI cn)) hs) le) mw) ms) ia) il)) rfl 1 (by decide) (hts _ flX6_15) (fun _ h => h) rfl dX6_take_32 ?_
        refine ln_if_ne (tgt := 42) hx hb dX6_take_35 (by decide) (by omega) (fun c35 => ?_) (fun c35 => ?_)
        · refine lv_aload_n hx hb dX6_take_42 rfl (lv_at hl 0 rfl) ?_
          refine va_get (D := D) (ci := 6) (v := .int (ia)) (C := RX6) (T := TX6) (N := 8) hx hb hts ni6 hown hK hP 10 (cw_c10 cy ad aw σ (ju_il (ju_ia (ju_ms (ju_mw (ju_le (ju_hs (ju_hm J (nI cn)) hs) le) mw) ms) ia) il)) rfl 6 (by decide) (hts _ flX6_31) (fun _ h => h) rfl dX6_take_43 ?_
          refine lv_iload_n hx hb dX6_take_46 rfl (lv_at hl 1 rfl) ?_
          refine lv_ior hx hb dX6_take_47 ?_
          refine ln_put (ci := 6) (C := RX6) (T := TX6) (N := 8) (ty := .int) (v := .int ((ia) ||| (nI (x)))) hx hb hts ni6 tyX6 tyX6_ok nmX6 hown hK hP hD hS 10 (cw_c10 cy ad aw σ (ju_il (ju_ia (ju_ms (ju_mw (ju_le (ju_hs (ju_hm J (nI cn)) hs) le) mw) ms) ia) il)) rfl 6 (by decide) (hts _ flX6_31) (fun _ h => h) rfl (by decide +kernel) rfl rfl (Nat.le_of_ble_eq_true rfl) ((cp_10_6 cy ad aw σ (ju_il (ju_ia (ju_ms (ju_mw (ju_le (ju_hs (ju_hm J (nI cn)) hs) le) mw) ms) ia) il) ((ia) ||| (nI (x)))).trans (congrArg (fun z => cw cy ad aw σ z) (by rw [jx_ia_il, jc_ia]))) dX6_take_48 (fun H locs hP hD hS => ?_)
          refine lv_aload_n hx hb dX6_take_51 rfl (lv_at hl 0 rfl) ?_
          refine lv_aload_n hx hb dX6_take_52 rfl (lv_at hl 0 rfl) ?_
          refine va_get (D := D) (ci := 6) (v := .int (nI (cn))) (C := RX6) (T := TX6) (N := 8) hx hb hts ni6 hown hK hP 10 (cw_c10 cy ad aw σ (ju_il (ju_ia (ju_ms (ju_mw (ju_le (ju_hs (ju_hm J (nI cn)) hs) le) mw) ms) ((ia) ||| (nI (x)))) il)) rfl 1 (by decide) (hts _ flX6_15) (fun _ h => h) rfl dX6_take_53 ?_
          refine ln_if_ne (tgt := 63) hx hb dX6_take_56 (by decide) (by omega) (fun c56 => ?_) (fun c56 => ?_)
          · refine lv_aload_n hx hb dX6_take_63 rfl (lv_at hl 0 rfl) ?_
            refine va_get (D := D) (ci := 6) (v := .int (il)) (C := RX6) (T := TX6) (N := 8) hx hb hts ni6 hown hK hP 10 (cw_c10 cy ad aw σ (ju_il (ju_ia (ju_ms (ju_mw (ju_le (ju_hs (ju_hm J (nI cn)) hs) le) mw) ms) ((ia) ||| (nI (x)))) il)) rfl 7 (by decide) (hts _ flX6_34) (fun _ h => h) rfl dX6_take_64 ?_
            refine lv_iload_n hx hb dX6_take_67 rfl (lv_at hl 1 rfl) ?_
            refine lv_iand hx hb dX6_take_68 ?_
            refine ln_put (ci := 6) (C := RX6) (T := TX6) (N := 8) (ty := .int) (v := .int ((il) &&& (nI (x)))) hx hb hts ni6 tyX6 tyX6_ok nmX6 hown hK hP hD hS 10 (cw_c10 cy ad aw σ (ju_il (ju_ia (ju_ms (ju_mw (ju_le (ju_hs (ju_hm J (nI cn)) hs) le) mw) ms) ((ia) ||| (nI (x)))) il)) rfl 7 (by decide) (hts _ flX6_34) (fun _ h => h) rfl (by decide +kernel) rfl rfl (Nat.le_of_ble_eq_true rfl) ((cp_10_7 cy ad aw σ (ju_il (ju_ia (ju_ms (ju_mw (ju_le (ju_hs (ju_hm J (nI cn)) hs) le) mw) ms) ((ia) ||| (nI (x)))) il) ((il) &&& (nI (x)))).trans (congrArg (fun z => cw cy ad aw σ z) (by rw [jc_il]))) dX6_take_69 (fun H locs hP hD hS => ?_)
            refine lv_aload_n hx hb dX6_take_72 rfl (lv_at hl 0 rfl) ?_
            refine lv_dup hx hb dX6_take_73 rfl ?_
            refine va_get (D := D) (ci := 6) (v := .int (nI (cn))) (C := RX6) (T := TX6) (N := 8) hx hb hts ni6 hown hK hP 10 (cw_c10 cy ad aw σ (ju_il (ju_ia (ju_ms (ju_mw (ju_le (ju_hs (ju_hm J (nI cn)) hs) le) mw) ms) ((ia) ||| (nI (x)))) ((il) &&& (nI (x))))) rfl 1 (by decide) (hts _ flX6_15) (fun _ h => h) rfl dX6_take_74 ?_
            refine lv_iconst (v := nI 1) hx hb dX6_take_77 (by decide) ?_
            refine ln_iadd hx hb dX6_take_78 ?_
            refine ln_put (ci := 6) (C := RX6) (T := TX6) (N := 8) (ty := .int) (v := .int (nI (cn + 1))) hx hb hts ni6 tyX6 tyX6_ok nmX6 hown hK hP hD hS 10 (cw_c10 cy ad aw σ (ju_il (ju_ia (ju_ms (ju_mw (ju_le (ju_hs (ju_hm J (nI cn)) hs) le) mw) ms) ((ia) ||| (nI (x)))) ((il) &&& (nI (x))))) rfl 1 (by decide) (hts _ flX6_15) (fun _ h => h) rfl (by decide +kernel) rfl rfl (Nat.le_of_ble_eq_true rfl) ((cp_10_1 cy ad aw σ (ju_il (ju_ia (ju_ms (ju_mw (ju_le (ju_hs (ju_hm J (nI cn)) hs) le) mw) ms) ((ia) ||| (nI (x)))) ((il) &&& (nI (x)))) (nI (cn + 1))).trans (congrArg (fun z => cw cy ad aw σ z) (by rw [jx_hm_il, jx_hm_ia, jx_hm_ms, jx_hm_mw, jx_hm_le, jx_hm_hs, jc_hm]))) dX6_take_79 (fun H locs hP hD hS => ?_)
            refine lv_iload_n hx hb dX6_take_82 rfl (lv_at hl 3 rfl) ?_
            refine lb_if_eq (tgt := 96) hx hb dX6_take_83 (by decide) (fun c83 => ?_) (fun c83 => ?_)
            · exact rw_v hx hb hr hlocks hS () (trivial) (by show va_P D vwCl (cw cy ad aw σ (ju_il (ju_ia (ju_ms (ju_mw (ju_le (ju_hs (ju_hm J (nI (cn + 1))) (if sr = true then hs + nI 1 else hs)) (if cn = 0 then nI x else le)) (if ms < nI wi then nI x else mw)) (if ms < nI wi then nI wi else ms)) (if cn = 0 then nI x else ia ||| nI x)) (if cn = 0 then nI x else il &&& nI x))) _; simp only [if_neg (show ¬ cn = 0 by omega)]; first | (rw [if_pos (Int32.not_le.mp c17), if_pos (Int32.not_le.mp c17), if_pos c83]; exact hP) | (rw [if_pos (Int32.not_le.mp c17), if_pos (Int32.not_le.mp c17), if_neg (by rw [c83]; decide)]; exact hP) | (rw [if_neg (Int32.not_lt.mpr c17), if_neg (Int32.not_lt.mpr c17), if_pos c83]; exact hP) | (rw [if_neg (Int32.not_lt.mpr c17), if_neg (Int32.not_lt.mpr c17), if_neg (by rw [c83]; decide)]; exact hP)) dX6_take_96
            · refine lv_aload_n hx hb dX6_take_86 rfl (lv_at hl 0 rfl) ?_
              refine lv_dup hx hb dX6_take_87 rfl ?_
              refine va_get (D := D) (ci := 6) (v := .int (hs)) (C := RX6) (T := TX6) (N := 8) hx hb hts ni6 hown hK hP 10 (cw_c10 cy ad aw σ (ju_il (ju_ia (ju_ms (ju_mw (ju_le (ju_hs (ju_hm J (nI (cn + 1))) hs) le) mw) ms) ((ia) ||| (nI (x)))) ((il) &&& (nI (x))))) rfl 2 (by decide) (hts _ flX6_19) (fun _ h => h) rfl dX6_take_88 ?_
              refine lv_iconst (v := nI 1) hx hb dX6_take_91 (by decide) ?_
              refine lv_iadd hx hb dX6_take_92 ?_
              refine ln_put (ci := 6) (C := RX6) (T := TX6) (N := 8) (ty := .int) (v := .int ((hs) + (nI (1)))) hx hb hts ni6 tyX6 tyX6_ok nmX6 hown hK hP hD hS 10 (cw_c10 cy ad aw σ (ju_il (ju_ia (ju_ms (ju_mw (ju_le (ju_hs (ju_hm J (nI (cn + 1))) hs) le) mw) ms) ((ia) ||| (nI (x)))) ((il) &&& (nI (x))))) rfl 2 (by decide) (hts _ flX6_19) (fun _ h => h) rfl (by decide +kernel) rfl rfl (Nat.le_of_ble_eq_true rfl) ((cp_10_2 cy ad aw σ (ju_il (ju_ia (ju_ms (ju_mw (ju_le (ju_hs (ju_hm J (nI (cn + 1))) hs) le) mw) ms) ((ia) ||| (nI (x)))) ((il) &&& (nI (x)))) ((hs) + (nI (1)))).trans (congrArg (fun z => cw cy ad aw σ z) (by rw [jx_hs_il, jx_hs_ia, jx_hs_ms, jx_hs_mw, jx_hs_le, jc_hs]))) dX6_take_93 (fun H locs hP hD hS => ?_)
              exact rw_v hx hb hr hlocks hS () (trivial) (by show va_P D vwCl (cw cy ad aw σ (ju_il (ju_ia (ju_ms (ju_mw (ju_le (ju_hs (ju_hm J (nI (cn + 1))) (if sr = true then hs + nI 1 else hs)) (if cn = 0 then nI x else le)) (if ms < nI wi then nI x else mw)) (if ms < nI wi then nI wi else ms)) (if cn = 0 then nI x else ia ||| nI x)) (if cn = 0 then nI x else il &&& nI x))) _; simp only [if_neg (show ¬ cn = 0 by omega)]; first | (rw [if_pos (Int32.not_le.mp c17), if_pos (Int32.not_le.mp c17), if_pos c83]; exact hP) | (rw [if_pos (Int32.not_le.mp c17), if_pos (Int32.not_le.mp c17), if_neg (by rw [c83]; decide)]; exact hP) | (rw [if_neg (Int32.not_lt.mpr c17), if_neg (Int32.not_lt.mpr c17), if_pos c83]; exact hP) | (rw [if_neg (Int32.not_lt.mpr c17), if_neg (Int32.not_lt.mpr c17), if_neg (by rw [c83]; decide)]; exact hP)) dX6_take_96
          · exact absurd c56 (by omega)
        · exact absurd c35 (by omega)
      · refine lv_aload_n hx hb dX6_take_20 rfl (lv_at hl 0 rfl) ?_
        refine lv_iload_n hx hb dX6_take_21 rfl (lv_at hl 1 rfl) ?_
        refine ln_put (ci := 6) (C := RX6) (T := TX6) (N := 8) (ty := .int) (v := .int (nI (x))) hx hb hts ni6 tyX6 tyX6_ok nmX6 hown hK hP hD hS 10 (cw_c10 cy ad aw σ (ju_il (ju_ia (ju_ms (ju_mw (ju_le (ju_hs (ju_hm J (nI cn)) hs) le) mw) ms) ia) il)) rfl 4 (by decide) (hts _ flX6_25) (fun _ h => h) rfl (by decide +kernel) rfl rfl (Nat.le_of_ble_eq_true rfl) ((cp_10_4 cy ad aw σ (ju_il (ju_ia (ju_ms (ju_mw (ju_le (ju_hs (ju_hm J (nI cn)) hs) le) mw) ms) ia) il) (nI (x))).trans (congrArg (fun z => cw cy ad aw σ z) (by rw [jx_mw_il, jx_mw_ia, jx_mw_ms, jc_mw]))) dX6_take_22 (fun H locs hP hD hS => ?_)
        refine lv_aload_n hx hb dX6_take_25 rfl (lv_at hl 0 rfl) ?_
        refine lv_iload_n hx hb dX6_take_26 rfl (lv_at hl 2 rfl) ?_
        refine ln_put (ci := 6) (C := RX6) (T := TX6) (N := 8) (ty := .int) (v := .int (nI (wi))) hx hb hts ni6 tyX6 tyX6_ok nmX6 hown hK hP hD hS 10 (cw_c10 cy ad aw σ (ju_il (ju_ia (ju_ms (ju_mw (ju_le (ju_hs (ju_hm J (nI cn)) hs) le) (nI (x))) ms) ia) il)) rfl 5 (by decide) (hts _ flX6_28) (fun _ h => h) rfl (by decide +kernel) rfl rfl (Nat.le_of_ble_eq_true rfl) ((cp_10_5 cy ad aw σ (ju_il (ju_ia (ju_ms (ju_mw (ju_le (ju_hs (ju_hm J (nI cn)) hs) le) (nI (x))) ms) ia) il) (nI (wi))).trans (congrArg (fun z => cw cy ad aw σ z) (by rw [jx_ms_il, jx_ms_ia, jc_ms]))) dX6_take_27 (fun H locs hP hD hS => ?_)
        refine lv_aload_n hx hb dX6_take_30 rfl (lv_at hl 0 rfl) ?_
        refine lv_aload_n hx hb dX6_take_31 rfl (lv_at hl 0 rfl) ?_
        refine va_get (D := D) (ci := 6) (v := .int (nI (cn))) (C := RX6) (T := TX6) (N := 8) hx hb hts ni6 hown hK hP 10 (cw_c10 cy ad aw σ (ju_il (ju_ia (ju_ms (ju_mw (ju_le (ju_hs (ju_hm J (nI cn)) hs) le) (nI (x))) (nI (wi))) ia) il)) rfl 1 (by decide) (hts _ flX6_15) (fun _ h => h) rfl dX6_take_32 ?_
        refine ln_if_ne (tgt := 42) hx hb dX6_take_35 (by decide) (by omega) (fun c35 => ?_) (fun c35 => ?_)
        · refine lv_aload_n hx hb dX6_take_42 rfl (lv_at hl 0 rfl) ?_
          refine va_get (D := D) (ci := 6) (v := .int (ia)) (C := RX6) (T := TX6) (N := 8) hx hb hts ni6 hown hK hP 10 (cw_c10 cy ad aw σ (ju_il (ju_ia (ju_ms (ju_mw (ju_le (ju_hs (ju_hm J (nI cn)) hs) le) (nI (x))) (nI (wi))) ia) il)) rfl 6 (by decide) (hts _ flX6_31) (fun _ h => h) rfl dX6_take_43 ?_
          refine lv_iload_n hx hb dX6_take_46 rfl (lv_at hl 1 rfl) ?_
          refine lv_ior hx hb dX6_take_47 ?_
          refine ln_put (ci := 6) (C := RX6) (T := TX6) (N := 8) (ty := .int) (v := .int ((ia) ||| (nI (x)))) hx hb hts ni6 tyX6 tyX6_ok nmX6 hown hK hP hD hS 10 (cw_c10 cy ad aw σ (ju_il (ju_ia (ju_ms (ju_mw (ju_le (ju_hs (ju_hm J (nI cn)) hs) le) (nI (x))) (nI (wi))) ia) il)) rfl 6 (by decide) (hts _ flX6_31) (fun _ h => h) rfl (by decide +kernel) rfl rfl (Nat.le_of_ble_eq_true rfl) ((cp_10_6 cy ad aw σ (ju_il (ju_ia (ju_ms (ju_mw (ju_le (ju_hs (ju_hm J (nI cn)) hs) le) (nI (x))) (nI (wi))) ia) il) ((ia) ||| (nI (x)))).trans (congrArg (fun z => cw cy ad aw σ z) (by rw [jx_ia_il, jc_ia]))) dX6_take_48 (fun H locs hP hD hS => ?_)
          refine lv_aload_n hx hb dX6_take_51 rfl (lv_at hl 0 rfl) ?_
          refine lv_aload_n hx hb dX6_take_52 rfl (lv_at hl 0 rfl) ?_
          refine va_get (D := D) (ci := 6) (v := .int (nI (cn))) (C := RX6) (T := TX6) (N := 8) hx hb hts ni6 hown hK hP 10 (cw_c10 cy ad aw σ (ju_il (ju_ia (ju_ms (ju_mw (ju_le (ju_hs (ju_hm J (nI cn)) hs) le) (nI (x))) (nI (wi))) ((ia) ||| (nI (x)))) il)) rfl 1 (by decide) (hts _ flX6_15) (fun _ h => h) rfl dX6_take_53 ?_
          refine ln_if_ne (tgt := 63) hx hb dX6_take_56 (by decide) (by omega) (fun c56 => ?_) (fun c56 => ?_)
          · refine lv_aload_n hx hb dX6_take_63 rfl (lv_at hl 0 rfl) ?_
            refine va_get (D := D) (ci := 6) (v := .int (il)) (C := RX6) (T := TX6) (N := 8) hx hb hts ni6 hown hK hP 10 (cw_c10 cy ad aw σ (ju_il (ju_ia (ju_ms (ju_mw (ju_le (ju_hs (ju_hm J (nI cn)) hs) le) (nI (x))) (nI (wi))) ((ia) ||| (nI (x)))) il)) rfl 7 (by decide) (hts _ flX6_34) (fun _ h => h) rfl dX6_take_64 ?_
            refine lv_iload_n hx hb dX6_take_67 rfl (lv_at hl 1 rfl) ?_
            refine lv_iand hx hb dX6_take_68 ?_
            refine ln_put (ci := 6) (C := RX6) (T := TX6) (N := 8) (ty := .int) (v := .int ((il) &&& (nI (x)))) hx hb hts ni6 tyX6 tyX6_ok nmX6 hown hK hP hD hS 10 (cw_c10 cy ad aw σ (ju_il (ju_ia (ju_ms (ju_mw (ju_le (ju_hs (ju_hm J (nI cn)) hs) le) (nI (x))) (nI (wi))) ((ia) ||| (nI (x)))) il)) rfl 7 (by decide) (hts _ flX6_34) (fun _ h => h) rfl (by decide +kernel) rfl rfl (Nat.le_of_ble_eq_true rfl) ((cp_10_7 cy ad aw σ (ju_il (ju_ia (ju_ms (ju_mw (ju_le (ju_hs (ju_hm J (nI cn)) hs) le) (nI (x))) (nI (wi))) ((ia) ||| (nI (x)))) il) ((il) &&& (nI (x)))).trans (congrArg (fun z => cw cy ad aw σ z) (by rw [jc_il]))) dX6_take_69 (fun H locs hP hD hS => ?_)
            refine lv_aload_n hx hb dX6_take_72 rfl (lv_at hl 0 rfl) ?_
            refine lv_dup hx hb dX6_take_73 rfl ?_
            refine va_get (D := D) (ci := 6) (v := .int (nI (cn))) (C := RX6) (T := TX6) (N := 8) hx hb hts ni6 hown hK hP 10 (cw_c10 cy ad aw σ (ju_il (ju_ia (ju_ms (ju_mw (ju_le (ju_hs (ju_hm J (nI cn)) hs) le) (nI (x))) (nI (wi))) ((ia) ||| (nI (x)))) ((il) &&& (nI (x))))) rfl 1 (by decide) (hts _ flX6_15) (fun _ h => h) rfl dX6_take_74 ?_
            refine lv_iconst (v := nI 1) hx hb dX6_take_77 (by decide) ?_
            refine ln_iadd hx hb dX6_take_78 ?_
            refine ln_put (ci := 6) (C := RX6) (T := TX6) (N := 8) (ty := .int) (v := .int (nI (cn + 1))) hx hb hts ni6 tyX6 tyX6_ok nmX6 hown hK hP hD hS 10 (cw_c10 cy ad aw σ (ju_il (ju_ia (ju_ms (ju_mw (ju_le (ju_hs (ju_hm J (nI cn)) hs) le) (nI (x))) (nI (wi))) ((ia) ||| (nI (x)))) ((il) &&& (nI (x))))) rfl 1 (by decide) (hts _ flX6_15) (fun _ h => h) rfl (by decide +kernel) rfl rfl (Nat.le_of_ble_eq_true rfl) ((cp_10_1 cy ad aw σ (ju_il (ju_ia (ju_ms (ju_mw (ju_le (ju_hs (ju_hm J (nI cn)) hs) le) (nI (x))) (nI (wi))) ((ia) ||| (nI (x)))) ((il) &&& (nI (x)))) (nI (cn + 1))).trans (congrArg (fun z => cw cy ad aw σ z) (by rw [jx_hm_il, jx_hm_ia, jx_hm_ms, jx_hm_mw, jx_hm_le, jx_hm_hs, jc_hm]))) dX6_take_79 (fun H locs hP hD hS => ?_)
            refine lv_iload_n hx hb dX6_take_82 rfl (lv_at hl 3 rfl) ?_
            refine lb_if_eq (tgt := 96) hx hb dX6_take_83 (by decide) (fun c83 => ?_) (fun c83 => ?_)
            · exact rw_v hx hb hr hlocks hS () (trivial) (by show va_P D vwCl (cw cy ad aw σ (ju_il (ju_ia (ju_ms (ju_mw (ju_le (ju_hs (ju_hm J (nI (cn + 1))) (if sr = true then hs + nI 1 else hs)) (if cn = 0 then nI x else le)) (if ms < nI wi then nI x else mw)) (if ms < nI wi then nI wi else ms)) (if cn = 0 then nI x else ia ||| nI x)) (if cn = 0 then nI x else il &&& nI x))) _; simp only [if_neg (show ¬ cn = 0 by omega)]; first | (rw [if_pos (Int32.not_le.mp c17), if_pos (Int32.not_le.mp c17), if_pos c83]; exact hP) | (rw [if_pos (Int32.not_le.mp c17), if_pos (Int32.not_le.mp c17), if_neg (by rw [c83]; decide)]; exact hP) | (rw [if_neg (Int32.not_lt.mpr c17), if_neg (Int32.not_lt.mpr c17), if_pos c83]; exact hP) | (rw [if_neg (Int32.not_lt.mpr c17), if_neg (Int32.not_lt.mpr c17), if_neg (by rw [c83]; decide)]; exact hP)) dX6_take_96
            · refine lv_aload_n hx hb dX6_take_86 rfl (lv_at hl 0 rfl) ?_
              refine lv_dup hx hb dX6_take_87 rfl ?_
              refine va_get (D := D) (ci := 6) (v := .int (hs)) (C := RX6) (T := TX6) (N := 8) hx hb hts ni6 hown hK hP 10 (cw_c10 cy ad aw σ (ju_il (ju_ia (ju_ms (ju_mw (ju_le (ju_hs (ju_hm J (nI (cn + 1))) hs) le) (nI (x))) (nI (wi))) ((ia) ||| (nI (x)))) ((il) &&& (nI (x))))) rfl 2 (by decide) (hts _ flX6_19) (fun _ h => h) rfl dX6_take_88 ?_
              refine lv_iconst (v := nI 1) hx hb dX6_take_91 (by decide) ?_
              refine lv_iadd hx hb dX6_take_92 ?_
              refine ln_put (ci := 6) (C := RX6) (T := TX6) (N := 8) (ty := .int) (v := .int ((hs) + (nI (1)))) hx hb hts ni6 tyX6 tyX6_ok nmX6 hown hK hP hD hS 10 (cw_c10 cy ad aw σ (ju_il (ju_ia (ju_ms (ju_mw (ju_le (ju_hs (ju_hm J (nI (cn + 1))) hs) le) (nI (x))) (nI (wi))) ((ia) ||| (nI (x)))) ((il) &&& (nI (x))))) rfl 2 (by decide) (hts _ flX6_19) (fun _ h => h) rfl (by decide +kernel) rfl rfl (Nat.le_of_ble_eq_true rfl) ((cp_10_2 cy ad aw σ (ju_il (ju_ia (ju_ms (ju_mw (ju_le (ju_hs (ju_hm J (nI (cn + 1))) hs) le) (nI (x))) (nI (wi))) ((ia) ||| (nI (x)))) ((il) &&& (nI (x)))) ((hs) + (nI (1)))).trans (congrArg (fun z => cw cy ad aw σ z) (by rw [jx_hs_il, jx_hs_ia, jx_hs_ms, jx_hs_mw, jx_hs_le, jc_hs]))) dX6_take_93 (fun H locs hP hD hS => ?_)
              exact rw_v hx hb hr hlocks hS () (trivial) (by show va_P D vwCl (cw cy ad aw σ (ju_il (ju_ia (ju_ms (ju_mw (ju_le (ju_hs (ju_hm J (nI (cn + 1))) (if sr = true then hs + nI 1 else hs)) (if cn = 0 then nI x else le)) (if ms < nI wi then nI x else mw)) (if ms < nI wi then nI wi else ms)) (if cn = 0 then nI x else ia ||| nI x)) (if cn = 0 then nI x else il &&& nI x))) _; simp only [if_neg (show ¬ cn = 0 by omega)]; first | (rw [if_pos (Int32.not_le.mp c17), if_pos (Int32.not_le.mp c17), if_pos c83]; exact hP) | (rw [if_pos (Int32.not_le.mp c17), if_pos (Int32.not_le.mp c17), if_neg (by rw [c83]; decide)]; exact hP) | (rw [if_neg (Int32.not_lt.mpr c17), if_neg (Int32.not_lt.mpr c17), if_pos c83]; exact hP) | (rw [if_neg (Int32.not_lt.mpr c17), if_neg (Int32.not_lt.mpr c17), if_neg (by rw [c83]; decide)]; exact hP)) dX6_take_96
          · exact absurd c56 (by omega)
        · exact absurd c35 (by omega)
    · exact absurd c4 (by omega)
set_option maxHeartbeats 4000000 in
set_option maxRecDepth 100000 in
theorem k_X6_make (l : Launch) (D : va_G) (cy : Nat → ClassId) (ad aw : Nat → Nat) (σ : Sg) (J : Js) (f i0 o0 : Nat) (hw : wfS σ) (hj : wfJ σ J) (hf : f < 3) (h1 : i0 < 256) (h2 : o0 < 256) : MV l yX6_make qX6_make 5 [.ref (ad 10), .int (nI (f)), .int (nI (i0)), .int (nI (o0))] D cy (cw cy ad aw σ J) (fun _ : Unit => True) (fun _ : Unit => cw cy ad aw σ (ju_il (ju_ia (ju_ms (ju_mw (ju_le (ju_hs (ju_hm J (nI (cntN (abP σ f i0 o0) (2 ^ s_n σ)))) (nI (cntN (asP σ f i0 o0) (2 ^ s_n σ)))) (oI (fst (abP σ f i0 o0) (2 ^ s_n σ)))) (oI (bst (abP σ f i0 o0) (wiA σ) (2 ^ s_n σ)))) (msI (abP σ f i0 o0) (wiA σ) (2 ^ s_n σ))) (iaI (abP σ f i0 o0) (2 ^ s_n σ))) (ilI (abP σ f i0 o0) (2 ^ s_n σ - 1) (2 ^ s_n σ)))) := by
  intro sz
  refine Met.ofW (cc := cX6_make) (maxL := 5) (ret := none) (by decide) rfl ?_
  intro p e s m args below meth c s₁ B hml hv
  obtain ⟨rfl, rfl, hP, hK, hN, hD0⟩ := hv
  have hx := B.exec
  have hb := B.bytes
  have hr := B.returns
  have hlocks := B.notSynchronized
  have hts : ∀ cq ∈ tg, cq.before ([.ref (ad 10), .int (nI (f)), .int (nI (i0)), .int (nI (o0))] : List Value).toArray s = true := fun cq h => atoms_spec (ws := qX6_make) B.pre cq (List.mem_cons_of_mem _ h)
  have hown : s.vm.findClass RX6 = some m.cls := findClass_of_methodNamed B.named
  have hD := hD0.self (sz := s.heap.size)
  generalize hAe : va_A (cw cy ad aw σ J) s.heap.size = A at hD ⊢
  have hA : ∀ q : Nat, s.heap.size ≤ q → A q := fun q h => by rw [← hAe]; exact Or.inr h
  have hS : va_S A s.heap s.heap [] := va_S.rf
  have hl := lv_entry ([.ref (ad 10), .int (nI (f)), .int (nI (i0)), .int (nI (o0))]) (n := 5) (Nat.le_of_ble_eq_true rfl)
  rw [lg_entry_eq]
  generalize (lg_sl ([.ref (ad 10), .int (nI (f)), .int (nI (i0)), .int (nI (o0))]) ++ List.replicate (5 - (lg_sl ([.ref (ad 10), .int (nI (f)), .int (nI (i0)), .int (nI (o0))])).length) Slot.unset).toArray = ls at hl ⊢
  have hl : lv_has ls 5 [(0, .ref (ad 10)), (1, .int (nI (f))), (2, .int (nI (i0))), (3, .int (nI (o0)))] := hl
  have hw1 := hw.1
  have hw2 := hw.2.1
  have hp8 := pw_8 hw1
  have hpp := pw_pos (s_n σ)
  have hov := ov_lt hw
  have hmo := mo_lt hw
  have hof := of_lt hw
  have hwib : ∀ j, wiA σ j < 2 ^ 31 := fun j => Nat.lt_of_le_of_lt (wiA_le hw j) (by decide)
  refine lv_aload_n hx hb dX6_make_0 rfl (lv_at hl 0 rfl) ?_
  refine lv_iconst (v := nI 0) hx hb dX6_make_1 (by decide) ?_
  refine ln_put (ci := 6) (C := RX6) (T := TX6) (N := 8) (ty := .int) (v := .int (nI (0))) hx hb hts ni6 tyX6 tyX6_ok nmX6 hown hK hP hD hS 10 (cw_c10 cy ad aw σ J) rfl 1 (by decide) (hts _ flX6_15) (fun _ h => h) rfl (by decide +kernel) rfl rfl (Nat.le_of_ble_eq_true rfl) (cp_10_1 cy ad aw σ J (nI (0))) dX6_make_2 (fun H locs hP hD hS => ?_)
  refine lv_aload_n hx hb dX6_make_5 rfl (lv_at hl 0 rfl) ?_
  refine lv_iconst (v := nI 0) hx hb dX6_make_6 (by decide) ?_
  refine ln_put (ci := 6) (C := RX6) (T := TX6) (N := 8) (ty := .int) (v := .int (nI (0))) hx hb hts ni6 tyX6 tyX6_ok nmX6 hown hK hP hD hS 10 (cw_c10 cy ad aw σ (ju_hm J (nI (0)))) rfl 2 (by decide) (hts _ flX6_19) (fun _ h => h) rfl (by decide +kernel) rfl rfl (Nat.le_of_ble_eq_true rfl) (cp_10_2 cy ad aw σ (ju_hm J (nI (0))) (nI (0))) dX6_make_7 (fun H locs hP hD hS => ?_)
  refine lv_aload_n hx hb dX6_make_10 rfl (lv_at hl 0 rfl) ?_
  refine lv_iconst (v := -1) hx hb dX6_make_11 (by decide) ?_
  refine ln_put (ci := 6) (C := RX6) (T := TX6) (N := 8) (ty := .int) (v := .int (-1)) hx hb hts ni6 tyX6 tyX6_ok nmX6 hown hK hP hD hS 10 (cw_c10 cy ad aw σ (ju_hs (ju_hm J (nI (0))) (nI (0)))) rfl 3 (by decide) (hts _ flX6_22) (fun _ h => h) rfl (by decide +kernel) rfl rfl (Nat.le_of_ble_eq_true rfl) (cp_10_3 cy ad aw σ (ju_hs (ju_hm J (nI (0))) (nI (0))) (-1)) dX6_make_12 (fun H locs hP hD hS => ?_)
  refine lv_aload_n hx hb dX6_make_15 rfl (lv_at hl 0 rfl) ?_
  refine lv_iconst (v := -1) hx hb dX6_make_16 (by decide) ?_
  refine ln_put (ci := 6) (C := RX6) (T := TX6) (N := 8) (ty := .int) (v := .int (-1)) hx hb hts ni6 tyX6 tyX6_ok nmX6 hown hK hP hD hS 10 (cw_c10 cy ad aw σ (ju_le (ju_hs (ju_hm J (nI (0))) (nI (0))) (-1))) rfl 4 (by decide) (hts _ flX6_25) (fun _ h => h) rfl (by decide +kernel) rfl rfl (Nat.le_of_ble_eq_true rfl) (cp_10_4 cy ad aw σ (ju_le (ju_hs (ju_hm J (nI (0))) (nI (0))) (-1)) (-1)) dX6_make_17 (fun H locs hP hD hS => ?_)
  refine lv_aload_n hx hb dX6_make_20 rfl (lv_at hl 0 rfl) ?_
  refine lv_iconst (v := -1) hx hb dX6_make_21 (by decide) ?_
  refine ln_put (ci := 6) (C := RX6) (T := TX6) (N := 8) (ty := .int) (v := .int (-1)) hx hb hts ni6 tyX6 tyX6_ok nmX6 hown hK hP hD hS 10 (cw_c10 cy ad aw σ (ju_mw (ju_le (ju_hs (ju_hm J (nI (0))) (nI (0))) (-1)) (-1))) rfl 5 (by decide) (hts _ flX6_28) (fun _ h => h) rfl (by decide +kernel) rfl rfl (Nat.le_of_ble_eq_true rfl) (cp_10_5 cy ad aw σ (ju_mw (ju_le (ju_hs (ju_hm J (nI (0))) (nI (0))) (-1)) (-1)) (-1)) dX6_make_22 (fun H locs hP hD hS => ?_)
  refine lv_aload_n hx hb dX6_make_25 rfl (lv_at hl 0 rfl) ?_
  refine lv_iconst (v := -1) hx hb dX6_make_26 (by decide) ?_
  refine ln_put (ci := 6) (C := RX6) (T := TX6) (N := 8) (ty := .int) (v := .int (-1)) hx hb hts ni6 tyX6 tyX6_ok nmX6 hown hK hP hD hS 10 (cw_c10 cy ad aw σ (ju_ms (ju_mw (ju_le (ju_hs (ju_hm J (nI (0))) (nI (0))) (-1)) (-1)) (-1))) rfl 6 (by decide) (hts _ flX6_31) (fun _ h => h) rfl (by decide +kernel) rfl rfl (Nat.le_of_ble_eq_true rfl) (cp_10_6 cy ad aw σ (ju_ms (ju_mw (ju_le (ju_hs (ju_hm J (nI (0))) (nI (0))) (-1)) (-1)) (-1)) (-1)) dX6_make_27 (fun H locs hP hD hS => ?_)
  refine lv_aload_n hx hb dX6_make_30 rfl (lv_at hl 0 rfl) ?_
  refine lv_iconst (v := -1) hx hb dX6_make_31 (by decide) ?_
  refine ln_put (ci := 6) (C := RX6) (T := TX6) (N := 8) (ty := .int) (v := .int (-1)) hx hb hts ni6 tyX6 tyX6_ok nmX6 hown hK hP hD hS 10 (cw_c10 cy ad aw σ (ju_ia (ju_ms (ju_mw (ju_le (ju_hs (ju_hm J (nI (0))) (nI (0))) (-1)) (-1)) (-1)) (-1))) rfl 7 (by decide) (hts _ flX6_34) (fun _ h => h) rfl (by decide +kernel) rfl rfl (Nat.le_of_ble_eq_true rfl) (cp_10_7 cy ad aw σ (ju_ia (ju_ms (ju_mw (ju_le (ju_hs (ju_hm J (nI (0))) (nI (0))) (-1)) (-1)) (-1)) (-1)) (-1)) dX6_make_32 (fun H locs hP hD hS => ?_)
  refine lv_iconst (v := nI 1) hx hb dX6_make_35 (by decide) ?_
  refine lv_istore (lv' := [(4, .int (nI (1))), (0, .ref (ad 10)), (1, .int (nI (f))), (2, .int (nI (i0))), (3, .int (nI (o0)))]) hx hb dX6_make_36 hl (by decide) rfl (fun ls hl => ?_)
  have lp : ∀ (k_lp i : Nat) (ls : Array Slot) (H : Heap) (locs : List Loc) , i + k_lp = 2 ^ s_n σ → va_P D vwCl (cw cy ad aw σ (ju_il (ju_ia (ju_ms (ju_mw (ju_le (ju_hs (ju_hm J (nI (cntN (abP σ f i0 o0) i))) (nI (cntN (asP σ f i0 o0) i))) (oI (fst (abP σ f i0 o0) i))) (oI (bst (abP σ f i0 o0) (wiA σ) i))) (msI (abP σ f i0 o0) (wiA σ) i)) (iaI (abP σ f i0 o0) i)) (ilI (abP σ f i0 o0) (2 ^ s_n σ - 1) i))) H → va_D A (cw cy ad aw σ (ju_il (ju_ia (ju_ms (ju_mw (ju_le (ju_hs (ju_hm J (nI (cntN (abP σ f i0 o0) i))) (nI (cntN (asP σ f i0 o0) i))) (oI (fst (abP σ f i0 o0) i))) (oI (bst (abP σ f i0 o0) (wiA σ) i))) (msI (abP σ f i0 o0) (wiA σ) i)) (iaI (abP σ f i0 o0) i)) (ilI (abP σ f i0 o0) (2 ^ s_n σ - 1) i))) → va_S A s.heap H locs → lv_has ls 5 [(4, .int (nI (i))), (0, .ref (ad 10)), (1, .int (nI (f))), (2, .int (nI (i0))), (3, .int (nI (o0)))] → W p l e (headSpec qX6_make (rq 5)).room s m ([.ref (ad 10), .int (nI (f)), .int (nI (i0)), .int (nI (o0))] : List Value).toArray below meth c H locs 0 0 (MQ below (va_Qv (fun _ : Unit => True) (fun u t => va_P D vwCl ((fun _ : Unit => cw cy ad aw σ (ju_il (ju_ia (ju_ms (ju_mw (ju_le (ju_hs (ju_hm J (nI (cntN (abP σ f i0 o0) (2 ^ s_n σ)))) (nI (cntN (asP σ f i0 o0) (2 ^ s_n σ)))) (oI (fst (abP σ f i0 o0) (2 ^ s_n σ)))) (oI (bst (abP σ f i0 o0) (wiA σ) (2 ^ s_n σ)))) (msI (abP σ f i0 o0) (wiA σ) (2 ^ s_n σ))) (iaI (abP σ f i0 o0) (2 ^ s_n σ))) (ilI (abP σ f i0 o0) (2 ^ s_n σ - 1) (2 ^ s_n σ)))) u) t.heap) A) ([.ref (ad 10), .int (nI (f)), .int (nI (i0)), .int (nI (o0))] : List Value).toArray s 0 0 A) (F0 m 38 ls []) := by
    intro k_lp
    induction k_lp with
    | zero =>
      intro i ls H locs hi_lp hP hD hS hl
      have hcl := cntN_le (abP σ f i0 o0) i
      have hjn := wfJ_sv hj (nI (cntN (abP σ f i0 o0) i)) (nI (cntN (asP σ f i0 o0) i)) (oI (fst (abP σ f i0 o0) i)) (oI (bst (abP σ f i0 o0) (wiA σ) i)) (msI (abP σ f i0 o0) (wiA σ) i) (iaI (abP σ f i0 o0) i) (ilI (abP σ f i0 o0) (2 ^ s_n σ - 1) i)
      refine lv_iload hx hb dX6_make_38 (lv_at hl 0 rfl) ?_
      refine lv_iconst (v := nI 1) hx hb dX6_make_40 (by decide) ?_
      refine lv_aload_n hx hb dX6_make_41 rfl (lv_at hl 1 rfl) ?_
      refine va_get (D := D) (ci := 6) (v := .ref (ad 3)) (C := RX6) (T := TX6) (N := 8) hx hb hts ni6 hown hK hP 10 (cw_c10 cy ad aw σ (ju_il (ju_ia (ju_ms (ju_mw (ju_le (ju_hs (ju_hm J (nI (cntN (abP σ f i0 o0) i))) (nI (cntN (asP σ f i0 o0) i))) (oI (fst (abP σ f i0 o0) i))) (oI (bst (abP σ f i0 o0) (wiA σ) i))) (msI (abP σ f i0 o0) (wiA σ) i)) (iaI (abP σ f i0 o0) i)) (ilI (abP σ f i0 o0) (2 ^ s_n σ - 1) i))) rfl 0 (by decide) (hts _ flX6_9) (fun _ h => h) rfl dX6_make_42 ?_
      refine va_get (D := D) (ci := 3) (v := .int (nI (s_n σ))) (C := RX3) (T := TX3) (N := 9) hx hb hts ni3 hown hK hP 3 (cw_c3 cy ad aw σ (ju_il (ju_ia (ju_ms (ju_mw (ju_le (ju_hs (ju_hm J (nI (cntN (abP σ f i0 o0) i))) (nI (cntN (asP σ f i0 o0) i))) (oI (fst (abP σ f i0 o0) i))) (oI (bst (abP σ f i0 o0) (wiA σ) i))) (msI (abP σ f i0 o0) (wiA σ) i)) (iaI (abP σ f i0 o0) i)) (ilI (abP σ f i0 o0) (2 ^ s_n σ - 1) i))) rfl 3 (by decide) (hts _ flX6_37) (fun _ h => h) rfl dX6_make_45 ?_
      refine ln_ishl hx hb dX6_make_48 (by omega) (by omega) ?_
      refine ln_icmp_ge (tgt := 121) hx hb dX6_make_49 (by decide) (by omega) (by omega) (fun c49 => ?_) (fun c49 => ?_)
      · exact rw_v hx hb hr hlocks hS () (trivial) (by show va_P D vwCl (cw cy ad aw σ (ju_il (ju_ia (ju_ms (ju_mw (ju_le (ju_hs (ju_hm J (nI (cntN (abP σ f i0 o0) (2 ^ s_n σ)))) (nI (cntN (asP σ f i0 o0) (2 ^ s_n σ)))) (oI (fst (abP σ f i0 o0) (2 ^ s_n σ)))) (oI (bst (abP σ f i0 o0) (wiA σ) (2 ^ s_n σ)))) (msI (abP σ f i0 o0) (wiA σ) (2 ^ s_n σ))) (iaI (abP σ f i0 o0) (2 ^ s_n σ))) (ilI (abP σ f i0 o0) (2 ^ s_n σ - 1) (2 ^ s_n σ)))) _; rw [show i = 2 ^ s_n σ by omega] at hP; exact hP) dX6_make_121
      · exact absurd c49 (by omega)
    | succ k_lp ih_lp =>
      intro i ls H locs hi_lp hP hD hS hl
      have hcl := cntN_le (abP σ f i0 o0) i
      have hjn := wfJ_sv hj (nI (cntN (abP σ f i0 o0) i)) (nI (cntN (asP σ f i0 o0) i)) (oI (fst (abP σ f i0 o0) i)) (oI (bst (abP σ f i0 o0) (wiA σ) i)) (msI (abP σ f i0 o0) (wiA σ) i) (iaI (abP σ f i0 o0) i) (ilI (abP σ f i0 o0) (2 ^ s_n σ - 1) i)
      refine lv_iload hx hb dX6_make_38 (lv_at hl 0 rfl) ?_
      refine lv_iconst (v := nI 1) hx hb dX6_make_40 (by decide) ?_
      refine lv_aload_n hx hb dX6_make_41 rfl (lv_at hl 1 rfl) ?_
      refine va_get (D := D) (ci := 6) (v := .ref (ad 3)) (C := RX6) (T := TX6) (N := 8) hx hb hts ni6 hown hK hP 10 (cw_c10 cy ad aw σ (ju_il (ju_ia (ju_ms (ju_mw (ju_le (ju_hs (ju_hm J (nI (cntN (abP σ f i0 o0) i))) (nI (cntN (asP σ f i0 o0) i))) (oI (fst (abP σ f i0 o0) i))) (oI (bst (abP σ f i0 o0) (wiA σ) i))) (msI (abP σ f i0 o0) (wiA σ) i)) (iaI (abP σ f i0 o0) i)) (ilI (abP σ f i0 o0) (2 ^ s_n σ - 1) i))) rfl 0 (by decide) (hts _ flX6_9) (fun _ h => h) rfl dX6_make_42 ?_
      refine va_get (D := D) (ci := 3) (v := .int (nI (s_n σ))) (C := RX3) (T := TX3) (N := 9) hx hb hts ni3 hown hK hP 3 (cw_c3 cy ad aw σ (ju_il (ju_ia (ju_ms (ju_mw (ju_le (ju_hs (ju_hm J (nI (cntN (abP σ f i0 o0) i))) (nI (cntN (asP σ f i0 o0) i))) (oI (fst (abP σ f i0 o0) i))) (oI (bst (abP σ f i0 o0) (wiA σ) i))) (msI (abP σ f i0 o0) (wiA σ) i)) (iaI (abP σ f i0 o0) i)) (ilI (abP σ f i0 o0) (2 ^ s_n σ - 1) i))) rfl 3 (by decide) (hts _ flX6_37) (fun _ h => h) rfl dX6_make_45 ?_
      refine ln_ishl hx hb dX6_make_48 (by omega) (by omega) ?_
      refine ln_icmp_ge (tgt := 121) hx hb dX6_make_49 (by decide) (by omega) (by omega) (fun c49 => ?_) (fun c49 => ?_)
      · exact absurd c49 (by omega)
      · refine lv_iload hx hb dX6_make_52 (lv_at hl 0 rfl) ?_
        refine lv_iload_n hx hb dX6_make_54 rfl (lv_at hl 3 rfl) ?_
        refine ln_iand hx hb dX6_make_55 ?_
        refine lv_iload_n hx hb dX6_make_56 rfl (lv_at hl 3 rfl) ?_
        refine ln_icmp_ne (tgt := 115) hx hb dX6_make_57 (by decide) (and_lt (by omega)) (by omega) (fun c57 => ?_) (fun c57 => ?_)
        · refine ln_iinc (lv' := [(4, .int (nI (i + 1))), (0, .ref (ad 10)), (1, .int (nI (f))), (2, .int (nI (i0))), (3, .int (nI (o0)))]) hx hb dX6_make_115 hl (k := 0) (n := 1) rfl (by decide) rfl (fun ls hl => ?_)
          refine lv_goto (tgt := 38) hx hb dX6_make_118 (by decide) ?_
          have hl : lv_has ls 5 [(4, .int (nI (i + 1))), (0, .ref (ad 10)), (1, .int (nI (f))), (2, .int (nI (i0))), (3, .int (nI (o0)))] := lv_sub hl [0, 1, 2, 3, 4] rfl
          have hab : abP σ f i0 o0 i = false := by first | exact ab_f1 c57 | exact ab_f2 c64 | exact ab_f3 c87
          have hP : va_P D vwCl (cw cy ad aw σ (ju_il (ju_ia (ju_ms (ju_mw (ju_le (ju_hs (ju_hm J (nI (cntN (abP σ f i0 o0) (i + 1)))) (nI (cntN (asP σ f i0 o0) (i + 1)))) (oI (fst (abP σ f i0 o0) (i + 1)))) (oI (bst (abP σ f i0 o0) (wiA σ) (i + 1)))) (msI (abP σ f i0 o0) (wiA σ) (i + 1))) (iaI (abP σ f i0 o0) (i + 1))) (ilI (abP σ f i0 o0) (2 ^ s_n σ - 1) (i + 1)))) H := by rw [← (show (nI (cntN (abP σ f i0 o0) i)) = nI (cntN (abP σ f i0 o0) (i + 1)) from congrArg nI (cntN_f hab)), ← (show (nI (cntN (asP σ f i0 o0) i)) = nI (cntN (asP σ f i0 o0) (i + 1)) from congrArg nI (cntN_f (asP_f hab))), ← (show (oI (fst (abP σ f i0 o0) i)) = oI (fst (abP σ f i0 o0) (i + 1)) from fst_f hab), ← (show (oI (bst (abP σ f i0 o0) (wiA σ) i)) = oI (bst (abP σ f i0 o0) (wiA σ) (i + 1)) from bst_f hab), ← (show (msI (abP σ f i0 o0) (wiA σ) i) = msI (abP σ f i0 o0) (wiA σ) (i + 1) from ms_f hab), ← (show (iaI (abP σ f i0 o0) i) = iaI (abP σ f i0 o0) (i + 1) from ia_f hab), ← (show (ilI (abP σ f i0 o0) (2 ^ s_n σ - 1) i) = ilI (abP σ f i0 o0) (2 ^ s_n σ - 1) (i + 1) from il_f hab)]; exact hP
          have hD : va_D A (cw cy ad aw σ (ju_il (ju_ia (ju_ms (ju_mw (ju_le (ju_hs (ju_hm J (nI (cntN (abP σ f i0 o0) (i + 1)))) (nI (cntN (asP σ f i0 o0) (i + 1)))) (oI (fst (abP σ f i0 o0) (i + 1)))) (oI (bst (abP σ f i0 o0) (wiA σ) (i + 1)))) (msI (abP σ f i0 o0) (wiA σ) (i + 1))) (iaI (abP σ f i0 o0) (i + 1))) (ilI (abP σ f i0 o0) (2 ^ s_n σ - 1) (i + 1)))) := va_D_map ((cw_ad _ _ _ _ _).trans (cw_ad _ _ _ _ _).symm) hD
          exact ih_lp (i + 1) ls _ _ (by omega) hP hD hS hl
        · refine lv_iload hx hb dX6_make_60 (lv_at hl 0 rfl) ?_
          refine lv_iload_n hx hb dX6_make_62 rfl (lv_at hl 4 rfl) ?_
          refine ln_iand hx hb dX6_make_63 ?_
          refine ln_if_ne (tgt := 115) hx hb dX6_make_64 (by decide) (and_lt (by omega)) (fun c64 => ?_) (fun c64 => ?_)
          · refine ln_iinc (lv' := [(4, .int (nI (i + 1))), (0, .ref (ad 10)), (1, .int (nI (f))), (2, .int (nI (i0))), (3, .int (nI (o0)))]) hx hb dX6_make_115 hl (k := 0) (n := 1) rfl (by decide) rfl (fun ls hl => ?_)
            refine lv_goto (tgt := 38) hx hb dX6_make_118 (by decide) ?_
            have hl : lv_has ls 5 [(4, .int (nI (i + 1))), (0, .ref (ad 10)), (1, .int (nI (f))), (2, .int (nI (i0))), (3, .int (nI (o0)))] := lv_sub hl [0, 1, 2, 3, 4] rfl
            have hab : abP σ f i0 o0 i = false := by first | exact ab_f1 c57 | exact ab_f2 c64 | exact ab_f3 c87
            have hP : va_P D vwCl (cw cy ad aw σ (ju_il (ju_ia (ju_ms (ju_mw (ju_le (ju_hs (ju_hm J (nI (cntN (abP σ f i0 o0) (i + 1)))) (nI (cntN (asP σ f i0 o0) (i + 1)))) (oI (fst (abP σ f i0 o0) (i + 1)))) (oI (bst (abP σ f i0 o0) (wiA σ) (i + 1)))) (msI (abP σ f i0 o0) (wiA σ) (i + 1))) (iaI (abP σ f i0 o0) (i + 1))) (ilI (abP σ f i0 o0) (2 ^ s_n σ - 1) (i + 1)))) H := by rw [← (show (nI (cntN (abP σ f i0 o0) i)) = nI (cntN (abP σ f i0 o0) (i + 1)) from congrArg nI (cntN_f hab)), ← (show (nI (cntN (asP σ f i0 o0) i)) = nI (cntN (asP σ f i0 o0) (i + 1)) from congrArg nI (cntN_f (asP_f hab))), ← (show (oI (fst (abP σ f i0 o0) i)) = oI (fst (abP σ f i0 o0) (i + 1)) from fst_f hab), ← (show (oI (bst (abP σ f i0 o0) (wiA σ) i)) = oI (bst (abP σ f i0 o0) (wiA σ) (i + 1)) from bst_f hab), ← (show (msI (abP σ f i0 o0) (wiA σ) i) = msI (abP σ f i0 o0) (wiA σ) (i + 1) from ms_f hab), ← (show (iaI (abP σ f i0 o0) i) = iaI (abP σ f i0 o0) (i + 1) from ia_f hab), ← (show (ilI (abP σ f i0 o0) (2 ^ s_n σ - 1) i) = ilI (abP σ f i0 o0) (2 ^ s_n σ - 1) (i + 1) from il_f hab)]; exact hP
            have hD : va_D A (cw cy ad aw σ (ju_il (ju_ia (ju_ms (ju_mw (ju_le (ju_hs (ju_hm J (nI (cntN (abP σ f i0 o0) (i + 1)))) (nI (cntN (asP σ f i0 o0) (i + 1)))) (oI (fst (abP σ f i0 o0) (i + 1)))) (oI (bst (abP σ f i0 o0) (wiA σ) (i + 1)))) (msI (abP σ f i0 o0) (wiA σ) (i + 1))) (iaI (abP σ f i0 o0) (i + 1))) (ilI (abP σ f i0 o0) (2 ^ s_n σ - 1) (i + 1)))) := va_D_map ((cw_ad _ _ _ _ _).trans (cw_ad _ _ _ _ _).symm) hD
            exact ih_lp (i + 1) ls _ _ (by omega) hP hD hS hl
          · refine lv_aload_n hx hb dX6_make_67 rfl (lv_at hl 1 rfl) ?_
            refine va_get (D := D) (ci := 6) (v := .ref (ad 3)) (C := RX6) (T := TX6) (N := 8) hx hb hts ni6 hown hK hP 10 (cw_c10 cy ad aw σ (ju_il (ju_ia (ju_ms (ju_mw (ju_le (ju_hs (ju_hm J (nI (cntN (abP σ f i0 o0) i))) (nI (cntN (asP σ f i0 o0) i))) (oI (fst (abP σ f i0 o0) i))) (oI (bst (abP σ f i0 o0) (wiA σ) i))) (msI (abP σ f i0 o0) (wiA σ) i)) (iaI (abP σ f i0 o0) i)) (ilI (abP σ f i0 o0) (2 ^ s_n σ - 1) i))) rfl 0 (by decide) (hts _ flX6_9) (fun _ h => h) rfl dX6_make_68 ?_
            refine lv_iload_n hx hb dX6_make_71 rfl (lv_at hl 2 rfl) ?_
            refine lv_iload hx hb dX6_make_72 (lv_at hl 0 rfl) ?_
            refine lv_aload_n hx hb dX6_make_74 rfl (lv_at hl 1 rfl) ?_
            refine va_get (D := D) (ci := 6) (v := .ref (ad 3)) (C := RX6) (T := TX6) (N := 8) hx hb hts ni6 hown hK hP 10 (cw_c10 cy ad aw σ (ju_il (ju_ia (ju_ms (ju_mw (ju_le (ju_hs (ju_hm J (nI (cntN (abP σ f i0 o0) i))) (nI (cntN (asP σ f i0 o0) i))) (oI (fst (abP σ f i0 o0) i))) (oI (bst (abP σ f i0 o0) (wiA σ) i))) (msI (abP σ f i0 o0) (wiA σ) i)) (iaI (abP σ f i0 o0) i)) (ilI (abP σ f i0 o0) (2 ^ s_n σ - 1) i))) rfl 0 (by decide) (hts _ flX6_9) (fun _ h => h) rfl dX6_make_75 ?_
            refine va_get (D := D) (ci := 3) (v := .ref (ad 6)) (C := RX3) (T := TX3) (N := 9) hx hb hts ni3 hown hK hP 3 (cw_c3 cy ad aw σ (ju_il (ju_ia (ju_ms (ju_mw (ju_le (ju_hs (ju_hm J (nI (cntN (abP σ f i0 o0) i))) (nI (cntN (asP σ f i0 o0) i))) (oI (fst (abP σ f i0 o0) i))) (oI (bst (abP σ f i0 o0) (wiA σ) i))) (msI (abP σ f i0 o0) (wiA σ) i)) (iaI (abP σ f i0 o0) i)) (ilI (abP σ f i0 o0) (2 ^ s_n σ - 1) i))) rfl 2 (by decide) (hts _ flX6_42) (fun _ h => h) rfl dX6_make_78 ?_
            refine va_get (D := D) (ci := 5) (v := .int (nI (s_ov σ + 256 * s_mo σ))) (C := RX5) (T := TX5) (N := 5) hx hb hts ni5 hown hK hP 6 (cw_c6 cy ad aw σ (ju_il (ju_ia (ju_ms (ju_mw (ju_le (ju_hs (ju_hm J (nI (cntN (abP σ f i0 o0) i))) (nI (cntN (asP σ f i0 o0) i))) (oI (fst (abP σ f i0 o0) i))) (oI (bst (abP σ f i0 o0) (wiA σ) i))) (msI (abP σ f i0 o0) (wiA σ) i)) (iaI (abP σ f i0 o0) i)) (ilI (abP σ f i0 o0) (2 ^ s_n σ - 1) i))) rfl 1 (by decide) (hts _ flX6_46) (fun _ h => h) rfl dX6_make_81 ?_
            refine cr_v (n := 3) (As := [.int (nI (f)), .int (nI (i)), .int (nI (s_ov σ + 256 * s_mo σ))]) (rest := []) ⟨hx, hb, hml, hown, hts⟩ (k_X3_isRight l D cy ad aw σ (ju_il (ju_ia (ju_ms (ju_mw (ju_le (ju_hs (ju_hm J (nI (cntN (abP σ f i0 o0) i))) (nI (cntN (asP σ f i0 o0) i))) (oI (fst (abP σ f i0 o0) i))) (oI (bst (abP σ f i0 o0) (wiA σ) i))) (msI (abP σ f i0 o0) (wiA σ) i)) (iaI (abP σ f i0 o0) i)) (ilI (abP σ f i0 o0) (2 ^ s_n σ - 1) i)) f i (s_ov σ) (s_mo σ) hw hjn (by omega) (by omega) (by omega) (by omega)) gvX6_51 (by decide +kernel) ⟨Nat.le_of_ble_eq_true rfl, Nat.le_of_ble_eq_true rfl⟩ hK hN hP 3 (cw_c3 cy ad aw σ (ju_il (ju_ia (ju_ms (ju_mw (ju_le (ju_hs (ju_hm J (nI (cntN (abP σ f i0 o0) i))) (nI (cntN (asP σ f i0 o0) i))) (oI (fst (abP σ f i0 o0) i))) (oI (bst (abP σ f i0 o0) (wiA σ) i))) (msI (abP σ f i0 o0) (wiA σ) i)) (iaI (abP σ f i0 o0) i)) (ilI (abP σ f i0 o0) (2 ^ s_n σ - 1) i))) rfl rfl hl.1 rfl (Nat.le_of_ble_eq_true rfl) dX6_make_84 ⟨Nat.zero_le _, Nat.zero_le _⟩ ?_
            refine lb_if_eq (tgt := 115) hx hb dX6_make_87 (by decide) (fun c87 => ?_) (fun c87 => ?_)
            · refine ln_iinc (lv' := [(4, .int (nI (i + 1))), (0, .ref (ad 10)), (1, .int (nI (f))), (2, .int (nI (i0))), (3, .int (nI (o0)))]) hx hb dX6_make_115 hl (k := 0) (n := 1) rfl (by decide) rfl (fun ls hl => ?_)
              refine lv_goto (tgt := 38) hx hb dX6_make_118 (by decide) ?_
              have hl : lv_has ls 5 [(4, .int (nI (i + 1))), (0, .ref (ad 10)), (1, .int (nI (f))), (2, .int (nI (i0))), (3, .int (nI (o0)))] := lv_sub hl [0, 1, 2, 3, 4] rfl
              have hab : abP σ f i0 o0 i = false := by first | exact ab_f1 c57 | exact ab_f2 c64 | exact ab_f3 c87
              have hP : va_P D vwCl (cw cy ad aw σ (ju_il (ju_ia (ju_ms (ju_mw (ju_le (ju_hs (ju_hm J (nI (cntN (abP σ f i0 o0) (i + 1)))) (nI (cntN (asP σ f i0 o0) (i + 1)))) (oI (fst (abP σ f i0 o0) (i + 1)))) (oI (bst (abP σ f i0 o0) (wiA σ) (i + 1)))) (msI (abP σ f i0 o0) (wiA σ) (i + 1))) (iaI (abP σ f i0 o0) (i + 1))) (ilI (abP σ f i0 o0) (2 ^ s_n σ - 1) (i + 1)))) H := by rw [← (show (nI (cntN (abP σ f i0 o0) i)) = nI (cntN (abP σ f i0 o0) (i + 1)) from congrArg nI (cntN_f hab)), ← (show (nI (cntN (asP σ f i0 o0) i)) = nI (cntN (asP σ f i0 o0) (i + 1)) from congrArg nI (cntN_f (asP_f hab))), ← (show (oI (fst (abP σ f i0 o0) i)) = oI (fst (abP σ f i0 o0) (i + 1)) from fst_f hab), ← (show (oI (bst (abP σ f i0 o0) (wiA σ) i)) = oI (bst (abP σ f i0 o0) (wiA σ) (i + 1)) from bst_f hab), ← (show (msI (abP σ f i0 o0) (wiA σ) i) = msI (abP σ f i0 o0) (wiA σ) (i + 1) from ms_f hab), ← (show (iaI (abP σ f i0 o0) i) = iaI (abP σ f i0 o0) (i + 1) from ia_f hab), ← (show (ilI (abP σ f i0 o0) (2 ^ s_n σ - 1) i) = ilI (abP σ f i0 o0) (2 ^ s_n σ - 1) (i + 1) from il_f hab)]; exact hP
              have hD : va_D A (cw cy ad aw σ (ju_il (ju_ia (ju_ms (ju_mw (ju_le (ju_hs (ju_hm J (nI (cntN (abP σ f i0 o0) (i + 1)))) (nI (cntN (asP σ f i0 o0) (i + 1)))) (oI (fst (abP σ f i0 o0) (i + 1)))) (oI (bst (abP σ f i0 o0) (wiA σ) (i + 1)))) (msI (abP σ f i0 o0) (wiA σ) (i + 1))) (iaI (abP σ f i0 o0) (i + 1))) (ilI (abP σ f i0 o0) (2 ^ s_n σ - 1) (i + 1)))) := va_D_map ((cw_ad _ _ _ _ _).trans (cw_ad _ _ _ _ _).symm) hD
              exact ih_lp (i + 1) ls _ _ (by omega) hP hD hS hl
            · refine lv_aload_n hx hb dX6_make_90 rfl (lv_at hl 1 rfl) ?_
              refine lv_iload hx hb dX6_make_91 (lv_at hl 0 rfl) ?_
              refine lv_aload_n hx hb dX6_make_93 rfl (lv_at hl 1 rfl) ?_
              refine va_get (D := D) (ci := 6) (v := .ref (ad 3)) (C := RX6) (T := TX6) (N := 8) hx hb hts ni6 hown hK hP 10 (cw_c10 cy ad aw σ (ju_il (ju_ia (ju_ms (ju_mw (ju_le (ju_hs (ju_hm J (nI (cntN (abP σ f i0 o0) i))) (nI (cntN (asP σ f i0 o0) i))) (oI (fst (abP σ f i0 o0) i))) (oI (bst (abP σ f i0 o0) (wiA σ) i))) (msI (abP σ f i0 o0) (wiA σ) i)) (iaI (abP σ f i0 o0) i)) (ilI (abP σ f i0 o0) (2 ^ s_n σ - 1) i))) rfl 0 (by decide) (hts _ flX6_9) (fun _ h => h) rfl dX6_make_94 ?_
              refine lv_iload hx hb dX6_make_97 (lv_at hl 0 rfl) ?_
              refine cr_v (n := 1) (As := [.int (nI (i))]) (rest := [.int (nI (i)), .ref (ad 10)]) ⟨hx, hb, hml, hown, hts⟩ (k_X3_wishesOfAll l D cy ad aw σ (ju_il (ju_ia (ju_ms (ju_mw (ju_le (ju_hs (ju_hm J (nI (cntN (abP σ f i0 o0) i))) (nI (cntN (asP σ f i0 o0) i))) (oI (fst (abP σ f i0 o0) i))) (oI (bst (abP σ f i0 o0) (wiA σ) i))) (msI (abP σ f i0 o0) (wiA σ) i)) (iaI (abP σ f i0 o0) i)) (ilI (abP σ f i0 o0) (2 ^ s_n σ - 1) i)) i hw (by omega)) gvX6_55 (by decide +kernel) ⟨Nat.le_of_ble_eq_true rfl, Nat.le_of_ble_eq_true rfl⟩ hK hN hP 3 (cw_c3 cy ad aw σ (ju_il (ju_ia (ju_ms (ju_mw (ju_le (ju_hs (ju_hm J (nI (cntN (abP σ f i0 o0) i))) (nI (cntN (asP σ f i0 o0) i))) (oI (fst (abP σ f i0 o0) i))) (oI (bst (abP σ f i0 o0) (wiA σ) i))) (msI (abP σ f i0 o0) (wiA σ) i)) (iaI (abP σ f i0 o0) i)) (ilI (abP σ f i0 o0) (2 ^ s_n σ - 1) i))) rfl rfl hl.1 rfl (Nat.le_of_ble_eq_true rfl) dX6_make_99 ⟨Nat.zero_le _, Nat.zero_le _⟩ ?_
              refine lv_aload_n hx hb dX6_make_102 rfl (lv_at hl 1 rfl) ?_
              refine va_get (D := D) (ci := 6) (v := .ref (ad 3)) (C := RX6) (T := TX6) (N := 8) hx hb hts ni6 hown hK hP 10 (cw_c10 cy ad aw σ (ju_il (ju_ia (ju_ms (ju_mw (ju_le (ju_hs (ju_hm J (nI (cntN (abP σ f i0 o0) i))) (nI (cntN (asP σ f i0 o0) i))) (oI (fst (abP σ f i0 o0) i))) (oI (bst (abP σ f i0 o0) (wiA σ) i))) (msI (abP σ f i0 o0) (wiA σ) i)) (iaI (abP σ f i0 o0) i)) (ilI (abP σ f i0 o0) (2 ^ s_n σ - 1) i))) rfl 0 (by decide) (hts _ flX6_9) (fun _ h => h) rfl dX6_make_103 ?_
              refine lv_iload_n hx hb dX6_make_106 rfl (lv_at hl 2 rfl) ?_
              refine lv_iload hx hb dX6_make_107 (lv_at hl 0 rfl) ?_
              refine cr_v (n := 2) (As := [.int (nI (f)), .int (nI (i))]) (rest := [.int (nI (wiA σ i)), .int (nI (i)), .ref (ad 10)]) ⟨hx, hb, hml, hown, hts⟩ (k_X3_isSure l D cy ad aw σ (ju_il (ju_ia (ju_ms (ju_mw (ju_le (ju_hs (ju_hm J (nI (cntN (abP σ f i0 o0) i))) (nI (cntN (asP σ f i0 o0) i))) (oI (fst (abP σ f i0 o0) i))) (oI (bst (abP σ f i0 o0) (wiA σ) i))) (msI (abP σ f i0 o0) (wiA σ) i)) (iaI (abP σ f i0 o0) i)) (ilI (abP σ f i0 o0) (2 ^ s_n σ - 1) i)) f i hw hjn (by omega) (by omega)) gvX6_59 (by decide +kernel) ⟨Nat.le_of_ble_eq_true rfl, Nat.le_of_ble_eq_true rfl⟩ hK hN hP 3 (cw_c3 cy ad aw σ (ju_il (ju_ia (ju_ms (ju_mw (ju_le (ju_hs (ju_hm J (nI (cntN (abP σ f i0 o0) i))) (nI (cntN (asP σ f i0 o0) i))) (oI (fst (abP σ f i0 o0) i))) (oI (bst (abP σ f i0 o0) (wiA σ) i))) (msI (abP σ f i0 o0) (wiA σ) i)) (iaI (abP σ f i0 o0) i)) (ilI (abP σ f i0 o0) (2 ^ s_n σ - 1) i))) rfl rfl hl.1 rfl (Nat.le_of_ble_eq_true rfl) dX6_make_109 ⟨Nat.zero_le _, Nat.zero_le _⟩ ?_
              refine cr_vv (n := 3) (As := [.int (nI (i)), .int (nI (wiA σ i)), .int (bI (fit σ f (pdA σ i (s_of σ)) (unA σ i)))]) (rest := []) ⟨hx, hb, hml, hown, hts⟩ (k_X6_take l D cy ad aw σ J (cntN (abP σ f i0 o0) i) i (wiA σ i) (fit σ f (pdA σ i (s_of σ)) (unA σ i)) (nI (cntN (asP σ f i0 o0) i)) (oI (fst (abP σ f i0 o0) i)) (oI (bst (abP σ f i0 o0) (wiA σ) i)) (msI (abP σ f i0 o0) (wiA σ) i) (iaI (abP σ f i0 o0) i) (ilI (abP σ f i0 o0) (2 ^ s_n σ - 1) i) (by omega)) gvX6_63 (by decide +kernel) ⟨Nat.le_of_ble_eq_true rfl, Nat.le_of_ble_eq_true rfl⟩ hK hN hP hD hS hA 10 (cw_c10 cy ad aw σ (ju_il (ju_ia (ju_ms (ju_mw (ju_le (ju_hs (ju_hm J (nI (cntN (abP σ f i0 o0) i))) (nI (cntN (asP σ f i0 o0) i))) (oI (fst (abP σ f i0 o0) i))) (oI (bst (abP σ f i0 o0) (wiA σ) i))) (msI (abP σ f i0 o0) (wiA σ) i)) (iaI (abP σ f i0 o0) i)) (ilI (abP σ f i0 o0) (2 ^ s_n σ - 1) i))) rfl rfl hl.1 rfl (Nat.le_of_ble_eq_true rfl) dX6_make_112 ⟨Nat.zero_le _, Nat.zero_le _⟩ (fun _ => (cw_ad _ _ _ _ _).trans (cw_ad _ _ _ _ _).symm) (fun u1 H locs hpu1 hP hD hS => ?_)
              have hP : va_P D vwCl (cw cy ad aw σ (ju_il (ju_ia (ju_ms (ju_mw (ju_le (ju_hs (ju_hm J (nI ((cntN (abP σ f i0 o0) i) + 1))) (if (fit σ f (pdA σ i (s_of σ)) (unA σ i)) = true then (nI (cntN (asP σ f i0 o0) i)) + nI 1 else (nI (cntN (asP σ f i0 o0) i)))) (if (cntN (abP σ f i0 o0) i) = 0 then nI i else (oI (fst (abP σ f i0 o0) i)))) (if (msI (abP σ f i0 o0) (wiA σ) i) < nI (wiA σ i) then nI i else (oI (bst (abP σ f i0 o0) (wiA σ) i)))) (if (msI (abP σ f i0 o0) (wiA σ) i) < nI (wiA σ i) then nI (wiA σ i) else (msI (abP σ f i0 o0) (wiA σ) i))) (if (cntN (abP σ f i0 o0) i) = 0 then nI i else (iaI (abP σ f i0 o0) i) ||| nI i)) (if (cntN (abP σ f i0 o0) i) = 0 then nI i else (ilI (abP σ f i0 o0) (2 ^ s_n σ - 1) i) &&& nI i))) H := hP
              have hD : va_D A (cw cy ad aw σ (ju_il (ju_ia (ju_ms (ju_mw (ju_le (ju_hs (ju_hm J (nI ((cntN (abP σ f i0 o0) i) + 1))) (if (fit σ f (pdA σ i (s_of σ)) (unA σ i)) = true then (nI (cntN (asP σ f i0 o0) i)) + nI 1 else (nI (cntN (asP σ f i0 o0) i)))) (if (cntN (abP σ f i0 o0) i) = 0 then nI i else (oI (fst (abP σ f i0 o0) i)))) (if (msI (abP σ f i0 o0) (wiA σ) i) < nI (wiA σ i) then nI i else (oI (bst (abP σ f i0 o0) (wiA σ) i)))) (if (msI (abP σ f i0 o0) (wiA σ) i) < nI (wiA σ i) then nI (wiA σ i) else (msI (abP σ f i0 o0) (wiA σ) i))) (if (cntN (abP σ f i0 o0) i) = 0 then nI i else (iaI (abP σ f i0 o0) i) ||| nI i)) (if (cntN (abP σ f i0 o0) i) = 0 then nI i else (ilI (abP σ f i0 o0) (2 ^ s_n σ - 1) i) &&& nI i))) := hD
              have hab := ab_t (σ := σ) (f := f) (i := i0) (o := o0) (x := i) c57 c64 c87
              refine ln_iinc (lv' := [(4, .int (nI (i + 1))), (0, .ref (ad 10)), (1, .int (nI (f))), (2, .int (nI (i0))), (3, .int (nI (o0)))]) hx hb dX6_make_115 hl (k := 0) (n := 1) rfl (by decide) rfl (fun ls hl => ?_)
              refine lv_goto (tgt := 38) hx hb dX6_make_118 (by decide) ?_
              have hl : lv_has ls 5 [(4, .int (nI (i + 1))), (0, .ref (ad 10)), (1, .int (nI (f))), (2, .int (nI (i0))), (3, .int (nI (o0)))] := lv_sub hl [0, 1, 2, 3, 4] rfl
              have hP : va_P D vwCl (cw cy ad aw σ (ju_il (ju_ia (ju_ms (ju_mw (ju_le (ju_hs (ju_hm J (nI (cntN (abP σ f i0 o0) (i + 1)))) (nI (cntN (asP σ f i0 o0) (i + 1)))) (oI (fst (abP σ f i0 o0) (i + 1)))) (oI (bst (abP σ f i0 o0) (wiA σ) (i + 1)))) (msI (abP σ f i0 o0) (wiA σ) (i + 1))) (iaI (abP σ f i0 o0) (i + 1))) (ilI (abP σ f i0 o0) (2 ^ s_n σ - 1) (i + 1)))) H := by rw [← (show (nI ((cntN (abP σ f i0 o0) i) + 1)) = nI (cntN (abP σ f i0 o0) (i + 1)) from congrArg nI (cntN_t hab)), ← (show (if (fit σ f (pdA σ i (s_of σ)) (unA σ i)) = true then (nI (cntN (asP σ f i0 o0) i)) + nI 1 else (nI (cntN (asP σ f i0 o0) i))) = nI (cntN (asP σ f i0 o0) (i + 1)) from sv_hs (asP_t hab)), ← (show (if (cntN (abP σ f i0 o0) i) = 0 then nI i else (oI (fst (abP σ f i0 o0) i))) = oI (fst (abP σ f i0 o0) (i + 1)) from sv_le hab), ← (show (if (msI (abP σ f i0 o0) (wiA σ) i) < nI (wiA σ i) then nI i else (oI (bst (abP σ f i0 o0) (wiA σ) i))) = oI (bst (abP σ f i0 o0) (wiA σ) (i + 1)) from sv_mw hab hwib), ← (show (if (msI (abP σ f i0 o0) (wiA σ) i) < nI (wiA σ i) then nI (wiA σ i) else (msI (abP σ f i0 o0) (wiA σ) i)) = msI (abP σ f i0 o0) (wiA σ) (i + 1) from sv_ms hab hwib), ← (show (if (cntN (abP σ f i0 o0) i) = 0 then nI i else (iaI (abP σ f i0 o0) i) ||| nI i) = iaI (abP σ f i0 o0) (i + 1) from sv_ia hab), ← (show (if (cntN (abP σ f i0 o0) i) = 0 then nI i else (ilI (abP σ f i0 o0) (2 ^ s_n σ - 1) i) &&& nI i) = ilI (abP σ f i0 o0) (2 ^ s_n σ - 1) (i + 1) from sv_il hab (by omega))]; exact hP
              have hD : va_D A (cw cy ad aw σ (ju_il (ju_ia (ju_ms (ju_mw (ju_le (ju_hs (ju_hm J (nI (cntN (abP σ f i0 o0) (i + 1)))) (nI (cntN (asP σ f i0 o0) (i + 1)))) (oI (fst (abP σ f i0 o0) (i + 1)))) (oI (bst (abP σ f i0 o0) (wiA σ) (i + 1)))) (msI (abP σ f i0 o0) (wiA σ) (i + 1))) (iaI (abP σ f i0 o0) (i + 1))) (ilI (abP σ f i0 o0) (2 ^ s_n σ - 1) (i + 1)))) := va_D_map ((cw_ad _ _ _ _ _).trans (cw_ad _ _ _ _ _).symm) hD
              exact ih_lp (i + 1) ls _ _ (by omega) hP hD hS hl
  have hl : lv_has ls 5 [(4, .int (nI (1))), (0, .ref (ad 10)), (1, .int (nI (f))), (2, .int (nI (i0))), (3, .int (nI (o0)))] := lv_sub hl [0, 1, 2, 3, 4] rfl
  have h0 : ∀ j, j < 1 → abP σ f i0 o0 j = false := fun j hj => by rw [show j = 0 by omega]; exact ab_0 σ f i0 o0
  have hc0 : cntN (abP σ f i0 o0) 1 = 0 := by rw [← cntN_f (h0 0 (by omega))]; rfl
  have hP : va_P D vwCl (cw cy ad aw σ (ju_il (ju_ia (ju_ms (ju_mw (ju_le (ju_hs (ju_hm J (nI (cntN (abP σ f i0 o0) 1))) (nI (cntN (asP σ f i0 o0) 1))) (oI (fst (abP σ f i0 o0) 1))) (oI (bst (abP σ f i0 o0) (wiA σ) 1))) (msI (abP σ f i0 o0) (wiA σ) 1)) (iaI (abP σ f i0 o0) 1)) (ilI (abP σ f i0 o0) (2 ^ s_n σ - 1) 1))) H := by rw [← (show nI 0 = nI (cntN (abP σ f i0 o0) 1) from by rw [hc0]), ← (show nI 0 = nI (cntN (asP σ f i0 o0) 1) from by rw [show cntN (asP σ f i0 o0) 1 = 0 from (by rw [← cntN_f (asP_f (h0 0 (by omega)))]; rfl)]), ← (show (-1 : Int32) = oI (fst (abP σ f i0 o0) 1) from by rw [fst_0 h0]; rfl), ← (show (-1 : Int32) = oI (bst (abP σ f i0 o0) (wiA σ) 1) from by rw [bst_0 h0]; rfl), ← (show (-1 : Int32) = msI (abP σ f i0 o0) (wiA σ) 1 from by rw [msI, bst_0 h0]), ← (show (-1 : Int32) = iaI (abP σ f i0 o0) 1 from by rw [iaI, if_pos hc0]), ← (show (-1 : Int32) = ilI (abP σ f i0 o0) (2 ^ s_n σ - 1) 1 from by rw [ilI, if_pos hc0])]; exact hP
  have hD : va_D A (cw cy ad aw σ (ju_il (ju_ia (ju_ms (ju_mw (ju_le (ju_hs (ju_hm J (nI (cntN (abP σ f i0 o0) 1))) (nI (cntN (asP σ f i0 o0) 1))) (oI (fst (abP σ f i0 o0) 1))) (oI (bst (abP σ f i0 o0) (wiA σ) 1))) (msI (abP σ f i0 o0) (wiA σ) 1)) (iaI (abP σ f i0 o0) 1)) (ilI (abP σ f i0 o0) (2 ^ s_n σ - 1) 1))) := va_D_map ((cw_ad _ _ _ _ _).trans (cw_ad _ _ _ _ _).symm) hD
  exact lp (2 ^ s_n σ - 1) 1 ls _ _ (by omega) hP hD hS hl
theorem v3_of {w : Int32} (h4 : isIx 4 w = true) (h3 : isIx 3 w = false) : w = nI 3 := by
  obtain ⟨k, hk, rfl⟩ := ix_of h4 (by decide)
  rw [ix_nI (by decide) (by omega), decide_eq_false_iff_not] at h3
  rw [show k = 3 by omega]
set_option maxHeartbeats 4000000 in
set_option maxRecDepth 100000 in
theorem k_X10_sure (l : Launch) (D : va_G) (cy : Nat → ClassId) (ad aw : Nat → Nat) (σ : Sg) (J : Js) (f : Int32) (hw : wfS σ) (hj : wfJ σ J) : MW l yX10_sure qX10_sure 6 [.ref (ad 0), .int (f)] D cy (cw cy ad aw σ J) (fun (r : Int32) (u : Js) => r = a_sure σ f ∧ wfJ (σ) u) (fun u : Js => cw cy ad aw (σ) u) := by
  intro sz
  refine Met.ofW (cc := cX10_sure) (maxL := 2) (ret := (some .int)) (by decide) rfl ?_
  intro p e s m args below meth c s₁ B hml hv
  obtain ⟨rfl, rfl, hP, hK, hN, hD0⟩ := hv
  have hx := B.exec
  have hb := B.bytes
  have hr := B.returns
  have hlocks := B.notSynchronized
  have hts : ∀ cq ∈ tg, cq.before ([.ref (ad 0), .int (f)] : List Value).toArray s = true := fun cq h => atoms_spec (ws := qX10_sure) B.pre cq (List.mem_cons_of_mem _ h)
  have hown : s.vm.findClass RX10 = some m.cls := findClass_of_methodNamed B.named
  have hD := hD0.self (sz := s.heap.size)
  generalize hAe : va_A (cw cy ad aw σ J) s.heap.size = A at hD ⊢
  have hA : ∀ q : Nat, s.heap.size ≤ q → A q := fun q h => by rw [← hAe]; exact Or.inr h
  have hS : va_S A s.heap s.heap [] := va_S.rf
  have hl := lv_entry ([.ref (ad 0), .int (f)]) (n := 2) (Nat.le_of_ble_eq_true rfl)
  rw [lg_entry_eq]
  generalize (lg_sl ([.ref (ad 0), .int (f)]) ++ List.replicate (2 - (lg_sl ([.ref (ad 0), .int (f)])).length) Slot.unset).toArray = ls at hl ⊢
  have hl : lv_has ls 2 [(0, .ref (ad 0)), (1, .int (f))] := hl
  have hw1 := hw.1
  have hw2 := hw.2.1
  have hp8 := pw_8 hw1
  have hpp := pw_pos (s_n σ)
  have hov := ov_lt hw
  have hmo := mo_lt hw
  have hof := of_lt hw
  refine lv_aload_n hx hb dX10_sure_0 rfl (lv_at hl 0 rfl) ?_
  refine va_get (D := D) (ci := 9) (v := .ref (ad 3)) (C := RX10) (T := TX10) (N := 8) hx hb hts ni10 hown hK hP 0 (cw_c0 cy ad aw σ J) rfl 1 (by decide) (hts _ flX10_19) (fun _ h => h) rfl dX10_sure_1 ?_
  refine lv_iload_n hx hb dX10_sure_4 rfl (lv_at hl 1 rfl) ?_
  refine cr_v (n := 1) (As := [.int (f)]) (rest := []) ⟨hx, hb, hml, hown, hts⟩ (k_X3_hasFerry l D cy ad aw σ J (f) hw) gvX10_139 (by decide +kernel) ⟨Nat.le_of_ble_eq_true rfl, Nat.le_of_ble_eq_true rfl⟩ hK hN hP 3 (cw_c3 cy ad aw σ J) rfl rfl hl.1 rfl (Nat.le_of_ble_eq_true rfl) dX10_sure_5 ⟨Nat.zero_le _, Nat.zero_le _⟩ ?_
  refine lb_if_ne (tgt := 14) hx hb dX10_sure_8 (by decide) (fun c8 => ?_) (fun c8 => ?_)
  · obtain ⟨f0, hf, rfl⟩ := ix_of c8 (by omega)
    have hl : lv_has ls 2 [(0, .ref (ad 0)), (1, .int (nI (f0)))] := hl
    refine lv_aload_n hx hb dX10_sure_14 rfl (lv_at hl 0 rfl) ?_
    refine va_get (D := D) (ci := 9) (v := .ref (ad 10)) (C := RX10) (T := TX10) (N := 8) hx hb hts ni10 hown hK hP 0 (cw_c0 cy ad aw σ J) rfl 3 (by decide) (hts _ flX10_37) (fun _ h => h) rfl dX10_sure_15 ?_
    refine lv_iload_n hx hb dX10_sure_18 rfl (lv_at hl 1 rfl) ?_
    refine lv_iconst (v := nI 0) hx hb dX10_sure_19 (by decide) ?_
    refine lv_iconst (v := nI 0) hx hb dX10_sure_20 (by decide) ?_
    refine cr_vv (n := 3) (As := [.int (nI (f0)), .int (nI (0)), .int (nI (0))]) (rest := []) ⟨hx, hb, hml, hown, hts⟩ (k_X6_make l D cy ad aw σ J f0 0 0 hw hj (by omega) (by omega) (by omega)) gvX10_202 (by decide +kernel) ⟨Nat.le_of_ble_eq_true rfl, Nat.le_of_ble_eq_true rfl⟩ hK hN hP hD hS hA 10 (cw_c10 cy ad aw σ J) rfl rfl hl.1 rfl (Nat.le_of_ble_eq_true rfl) dX10_sure_21 ⟨Nat.zero_le _, Nat.zero_le _⟩ (fun _ => (cw_ad _ _ _ _ _).trans (cw_ad _ _ _ _ _).symm) (fun u1 H locs hpu1 hP hD hS => ?_)
    have hP : va_P D vwCl (cw cy ad aw σ (ju_il (ju_ia (ju_ms (ju_mw (ju_le (ju_hs (ju_hm J (nI (cntN (abP σ f0 0 0) (2 ^ s_n σ)))) (nI (cntN (asP σ f0 0 0) (2 ^ s_n σ)))) (oI (fst (abP σ f0 0 0) (2 ^ s_n σ)))) (oI (bst (abP σ f0 0 0) (wiA σ) (2 ^ s_n σ)))) (msI (abP σ f0 0 0) (wiA σ) (2 ^ s_n σ))) (iaI (abP σ f0 0 0) (2 ^ s_n σ))) (ilI (abP σ f0 0 0) (2 ^ s_n σ - 1) (2 ^ s_n σ)))) H := hP
    have hD : va_D A (cw cy ad aw σ (ju_il (ju_ia (ju_ms (ju_mw (ju_le (ju_hs (ju_hm J (nI (cntN (abP σ f0 0 0) (2 ^ s_n σ)))) (nI (cntN (asP σ f0 0 0) (2 ^ s_n σ)))) (oI (fst (abP σ f0 0 0) (2 ^ s_n σ)))) (oI (bst (abP σ f0 0 0) (wiA σ) (2 ^ s_n σ)))) (msI (abP σ f0 0 0) (wiA σ) (2 ^ s_n σ))) (iaI (abP σ f0 0 0) (2 ^ s_n σ))) (ilI (abP σ f0 0 0) (2 ^ s_n σ - 1) (2 ^ s_n σ)))) := hD
    refine lv_aload_n hx hb dX10_sure_24 rfl (lv_at hl 0 rfl) ?_
    refine va_get (D := D) (ci := 9) (v := .ref (ad 10)) (C := RX10) (T := TX10) (N := 8) hx hb hts ni10 hown hK hP 0 (cw_c0 cy ad aw σ (ju_il (ju_ia (ju_ms (ju_mw (ju_le (ju_hs (ju_hm J (nI (cntN (abP σ f0 0 0) (2 ^ s_n σ)))) (nI (cntN (asP σ f0 0 0) (2 ^ s_n σ)))) (oI (fst (abP σ f0 0 0) (2 ^ s_n σ)))) (oI (bst (abP σ f0 0 0) (wiA σ) (2 ^ s_n σ)))) (msI (abP σ f0 0 0) (wiA σ) (2 ^ s_n σ))) (iaI (abP σ f0 0 0) (2 ^ s_n σ))) (ilI (abP σ f0 0 0) (2 ^ s_n σ - 1) (2 ^ s_n σ)))) rfl 3 (by decide) (hts _ flX10_37) (fun _ h => h) rfl dX10_sure_25 ?_
    refine va_get (D := D) (ci := 6) (v := .int (nI (cntN (asP σ f0 0 0) (2 ^ s_n σ)))) (C := RX6) (T := TX6) (N := 8) hx hb hts ni6 hown hK hP 10 (cw_c10 cy ad aw σ (ju_il (ju_ia (ju_ms (ju_mw (ju_le (ju_hs (ju_hm J (nI (cntN (abP σ f0 0 0) (2 ^ s_n σ)))) (nI (cntN (asP σ f0 0 0) (2 ^ s_n σ)))) (oI (fst (abP σ f0 0 0) (2 ^ s_n σ)))) (oI (bst (abP σ f0 0 0) (wiA σ) (2 ^ s_n σ)))) (msI (abP σ f0 0 0) (wiA σ) (2 ^ s_n σ))) (iaI (abP σ f0 0 0) (2 ^ s_n σ))) (ilI (abP σ f0 0 0) (2 ^ s_n σ - 1) (2 ^ s_n σ)))) rfl 2 (by decide) (hts _ flX10_239) (fun _ h => h) rfl dX10_sure_28 ?_
    exact rw_i hx hb hr hlocks hS (ju_il (ju_ia (ju_ms (ju_mw (ju_le (ju_hs (ju_hm J (nI (cntN (abP σ f0 0 0) (2 ^ s_n σ)))) (nI (cntN (asP σ f0 0 0) (2 ^ s_n σ)))) (oI (fst (abP σ f0 0 0) (2 ^ s_n σ)))) (oI (bst (abP σ f0 0 0) (wiA σ) (2 ^ s_n σ)))) (msI (abP σ f0 0 0) (wiA σ) (2 ^ s_n σ))) (iaI (abP σ f0 0 0) (2 ^ s_n σ))) (ilI (abP σ f0 0 0) (2 ^ s_n σ - 1) (2 ^ s_n σ))) (⟨by rw [a_sure, c8, tk_nI (k := f0) (by omega), as00]; rfl, (wfJ_sv hj _ _ _ _ _ _ _)⟩) hP dX10_sure_31
  · refine lv_bipush (v := -2) hx hb dX10_sure_11 (by decide) ?_
    exact rw_i hx hb hr hlocks hS J (⟨by rw [a_sure, c8]; rfl, hj⟩) hP dX10_sure_13
set_option maxHeartbeats 4000000 in
set_option maxRecDepth 100000 in
theorem k_X10_loads (l : Launch) (D : va_G) (cy : Nat → ClassId) (ad aw : Nat → Nat) (σ : Sg) (J : Js) (f w : Int32) (hw : wfS σ) (hj : wfJ σ J) : MW l yX10_loads qX10_loads 6 [.ref (ad 0), .int (f), .int (w)] D cy (cw cy ad aw σ J) (fun (r : Int32) (u : Js) => r = a_loads σ f w ∧ wfJ (σ) u) (fun u : Js => cw cy ad aw (σ) u) := by
  intro sz
  refine Met.ofW (cc := cX10_loads) (maxL := 3) (ret := (some .int)) (by decide) rfl ?_
  intro p e s m args below meth c s₁ B hml hv
  obtain ⟨rfl, rfl, hP, hK, hN, hD0⟩ := hv
  have hx := B.exec
  have hb := B.bytes
  have hr := B.returns
  have hlocks := B.notSynchronized
  have hts : ∀ cq ∈ tg, cq.before ([.ref (ad 0), .int (f), .int (w)] : List Value).toArray s = true := fun cq h => atoms_spec (ws := qX10_loads) B.pre cq (List.mem_cons_of_mem _ h)
  have hown : s.vm.findClass RX10 = some m.cls := findClass_of_methodNamed B.named
  have hD := hD0.self (sz := s.heap.size)
  generalize hAe : va_A (cw cy ad aw σ J) s.heap.size = A at hD ⊢
  have hA : ∀ q : Nat, s.heap.size ≤ q → A q := fun q h => by rw [← hAe]; exact Or.inr h
  have hS : va_S A s.heap s.heap [] := va_S.rf
  have hl := lv_entry ([.ref (ad 0), .int (f), .int (w)]) (n := 3) (Nat.le_of_ble_eq_true rfl)
  rw [lg_entry_eq]
  generalize (lg_sl ([.ref (ad 0), .int (f), .int (w)]) ++ List.replicate (3 - (lg_sl ([.ref (ad 0), .int (f), .int (w)])).length) Slot.unset).toArray = ls at hl ⊢
  have hl : lv_has ls 3 [(0, .ref (ad 0)), (1, .int (f)), (2, .int (w))] := hl
  have hw1 := hw.1
  have hw2 := hw.2.1
  have hp8 := pw_8 hw1
  have hpp := pw_pos (s_n σ)
  have hov := ov_lt hw
  have hmo := mo_lt hw
  have hof := of_lt hw
  refine lv_aload_n hx hb dX10_loads_0 rfl (lv_at hl 0 rfl) ?_
  refine va_get (D := D) (ci := 9) (v := .ref (ad 3)) (C := RX10) (T := TX10) (N := 8) hx hb hts ni10 hown hK hP 0 (cw_c0 cy ad aw σ J) rfl 1 (by decide) (hts _ flX10_19) (fun _ h => h) rfl dX10_loads_1 ?_
  refine lv_iload_n hx hb dX10_loads_4 rfl (lv_at hl 1 rfl) ?_
  refine cr_v (n := 1) (As := [.int (f)]) (rest := []) ⟨hx, hb, hml, hown, hts⟩ (k_X3_hasFerry l D cy ad aw σ J (f) hw) gvX10_139 (by decide +kernel) ⟨Nat.le_of_ble_eq_true rfl, Nat.le_of_ble_eq_true rfl⟩ hK hN hP 3 (cw_c3 cy ad aw σ J) rfl rfl hl.1 rfl (Nat.le_of_ble_eq_true rfl) dX10_loads_5 ⟨Nat.zero_le _, Nat.zero_le _⟩ ?_
  refine lb_if_ne (tgt := 14) hx hb dX10_loads_8 (by decide) (fun c8 => ?_) (fun c8 => ?_)
  · obtain ⟨f0, hf, rfl⟩ := ix_of c8 (by omega)
    have hl : lv_has ls 3 [(0, .ref (ad 0)), (1, .int (nI (f0))), (2, .int (w))] := hl
    refine lv_iload_n hx hb dX10_loads_14 rfl (lv_at hl 2 rfl) ?_
    refine lv_if_lt (tgt := 23) hx hb dX10_loads_15 (by decide) (fun c15 => ?_) (fun c15 => ?_)
    · refine lv_bipush (v := -3) hx hb dX10_loads_23 (by decide) ?_
      exact rw_i hx hb hr hlocks hS J (⟨by first | (rw [a_loads, c8, ixf1 (by decide) c15]; rfl; done) | (rw [a_loads, c8, ixf2 (k := 3) (by decide) c20]; rfl), hj⟩) hP dX10_loads_25
    · refine lv_iload_n hx hb dX10_loads_18 rfl (lv_at hl 2 rfl) ?_
      refine lv_iconst (v := nI 3) hx hb dX10_loads_19 (by decide) ?_
      refine lv_icmp_le (tgt := 26) hx hb dX10_loads_20 (by decide) (fun c20 => ?_) (fun c20 => ?_)
      · refine lv_aload_n hx hb dX10_loads_26 rfl (lv_at hl 0 rfl) ?_
        refine va_get (D := D) (ci := 9) (v := .ref (ad 10)) (C := RX10) (T := TX10) (N := 8) hx hb hts ni10 hown hK hP 0 (cw_c0 cy ad aw σ J) rfl 3 (by decide) (hts _ flX10_37) (fun _ h => h) rfl dX10_loads_27 ?_
        refine lv_iload_n hx hb dX10_loads_30 rfl (lv_at hl 1 rfl) ?_
        refine lv_iconst (v := nI 0) hx hb dX10_loads_31 (by decide) ?_
        refine lv_iconst (v := nI 0) hx hb dX10_loads_32 (by decide) ?_
        refine cr_vv (n := 3) (As := [.int (nI (f0)), .int (nI (0)), .int (nI (0))]) (rest := []) ⟨hx, hb, hml, hown, hts⟩ (k_X6_make l D cy ad aw σ J f0 0 0 hw hj (by omega) (by omega) (by omega)) gvX10_202 (by decide +kernel) ⟨Nat.le_of_ble_eq_true rfl, Nat.le_of_ble_eq_true rfl⟩ hK hN hP hD hS hA 10 (cw_c10 cy ad aw σ J) rfl rfl hl.1 rfl (Nat.le_of_ble_eq_true rfl) dX10_loads_33 ⟨Nat.zero_le _, Nat.zero_le _⟩ (fun _ => (cw_ad _ _ _ _ _).trans (cw_ad _ _ _ _ _).symm) (fun u1 H locs hpu1 hP hD hS => ?_)
        have hP : va_P D vwCl (cw cy ad aw σ (ju_il (ju_ia (ju_ms (ju_mw (ju_le (ju_hs (ju_hm J (nI (cntN (abP σ f0 0 0) (2 ^ s_n σ)))) (nI (cntN (asP σ f0 0 0) (2 ^ s_n σ)))) (oI (fst (abP σ f0 0 0) (2 ^ s_n σ)))) (oI (bst (abP σ f0 0 0) (wiA σ) (2 ^ s_n σ)))) (msI (abP σ f0 0 0) (wiA σ) (2 ^ s_n σ))) (iaI (abP σ f0 0 0) (2 ^ s_n σ))) (ilI (abP σ f0 0 0) (2 ^ s_n σ - 1) (2 ^ s_n σ)))) H := hP
        have hD : va_D A (cw cy ad aw σ (ju_il (ju_ia (ju_ms (ju_mw (ju_le (ju_hs (ju_hm J (nI (cntN (abP σ f0 0 0) (2 ^ s_n σ)))) (nI (cntN (asP σ f0 0 0) (2 ^ s_n σ)))) (oI (fst (abP σ f0 0 0) (2 ^ s_n σ)))) (oI (bst (abP σ f0 0 0) (wiA σ) (2 ^ s_n σ)))) (msI (abP σ f0 0 0) (wiA σ) (2 ^ s_n σ))) (iaI (abP σ f0 0 0) (2 ^ s_n σ))) (ilI (abP σ f0 0 0) (2 ^ s_n σ - 1) (2 ^ s_n σ)))) := hD
        refine lv_iload_n hx hb dX10_loads_36 rfl (lv_at hl 2 rfl) ?_
        rcases sw_in (n := 3) (by decide) w with ⟨j, hjsw, hsw⟩ | hout
        · rcases (show j = 0 ∨ j = 1 ∨ j = 2 by omega) with rfl | rfl | rfl
          · subst hsw
            have hl : lv_has ls 3 [(0, .ref (ad 0)), (1, .int (nI (f0))), (2, .int (nI (0)))] := hl
            refine lv_tableIn (tgt := 64) hx hb dX10_loads_37 (by decide) (by decide) rfl (by decide) ?_
            refine lv_aload_n hx hb dX10_loads_64 rfl (lv_at hl 0 rfl) ?_
            refine va_get (D := D) (ci := 9) (v := .ref (ad 10)) (C := RX10) (T := TX10) (N := 8) hx hb hts ni10 hown hK hP 0 (cw_c0 cy ad aw σ (ju_il (ju_ia (ju_ms (ju_mw (ju_le (ju_hs (ju_hm J (nI (cntN (abP σ f0 0 0) (2 ^ s_n σ)))) (nI (cntN (asP σ f0 0 0) (2 ^ s_n σ)))) (oI (fst (abP σ f0 0 0) (2 ^ s_n σ)))) (oI (bst (abP σ f0 0 0) (wiA σ) (2 ^ s_n σ)))) (msI (abP σ f0 0 0) (wiA σ) (2 ^ s_n σ))) (iaI (abP σ f0 0 0) (2 ^ s_n σ))) (ilI (abP σ f0 0 0) (2 ^ s_n σ - 1) (2 ^ s_n σ)))) rfl 3 (by decide) (hts _ flX10_37) (fun _ h => h) rfl dX10_loads_65 ?_
            refine va_get (D := D) (ci := 6) (v := .int (nI (cntN (abP σ f0 0 0) (2 ^ s_n σ)))) (C := RX6) (T := TX6) (N := 8) hx hb hts ni6 hown hK hP 10 (cw_c10 cy ad aw σ (ju_il (ju_ia (ju_ms (ju_mw (ju_le (ju_hs (ju_hm J (nI (cntN (abP σ f0 0 0) (2 ^ s_n σ)))) (nI (cntN (asP σ f0 0 0) (2 ^ s_n σ)))) (oI (fst (abP σ f0 0 0) (2 ^ s_n σ)))) (oI (bst (abP σ f0 0 0) (wiA σ) (2 ^ s_n σ)))) (msI (abP σ f0 0 0) (wiA σ) (2 ^ s_n σ))) (iaI (abP σ f0 0 0) (2 ^ s_n σ))) (ilI (abP σ f0 0 0) (2 ^ s_n σ - 1) (2 ^ s_n σ)))) rfl 1 (by decide) (hts _ flX10_206) (fun _ h => h) rfl dX10_loads_68 ?_
            exact rw_i hx hb hr hlocks hS (ju_il (ju_ia (ju_ms (ju_mw (ju_le (ju_hs (ju_hm J (nI (cntN (abP σ f0 0 0) (2 ^ s_n σ)))) (nI (cntN (asP σ f0 0 0) (2 ^ s_n σ)))) (oI (fst (abP σ f0 0 0) (2 ^ s_n σ)))) (oI (bst (abP σ f0 0 0) (wiA σ) (2 ^ s_n σ)))) (msI (abP σ f0 0 0) (wiA σ) (2 ^ s_n σ))) (iaI (abP σ f0 0 0) (2 ^ s_n σ))) (ilI (abP σ f0 0 0) (2 ^ s_n σ - 1) (2 ^ s_n σ))) (⟨by rw [a_loads, c8, show isIx 4 _ = true from ixt (k := 3) (by decide) c15 c20, tk_nI (k := f0) (by omega), ab00]; rfl, (wfJ_sv hj _ _ _ _ _ _ _)⟩) hP dX10_loads_71
          · subst hsw
            have hl : lv_has ls 3 [(0, .ref (ad 0)), (1, .int (nI (f0))), (2, .int (nI (1)))] := hl
            refine lv_tableIn (tgt := 72) hx hb dX10_loads_37 (by decide) (by decide) rfl (by decide) ?_
            refine lv_aload_n hx hb dX10_loads_72 rfl (lv_at hl 0 rfl) ?_
            refine va_get (D := D) (ci := 9) (v := .ref (ad 10)) (C := RX10) (T := TX10) (N := 8) hx hb hts ni10 hown hK hP 0 (cw_c0 cy ad aw σ (ju_il (ju_ia (ju_ms (ju_mw (ju_le (ju_hs (ju_hm J (nI (cntN (abP σ f0 0 0) (2 ^ s_n σ)))) (nI (cntN (asP σ f0 0 0) (2 ^ s_n σ)))) (oI (fst (abP σ f0 0 0) (2 ^ s_n σ)))) (oI (bst (abP σ f0 0 0) (wiA σ) (2 ^ s_n σ)))) (msI (abP σ f0 0 0) (wiA σ) (2 ^ s_n σ))) (iaI (abP σ f0 0 0) (2 ^ s_n σ))) (ilI (abP σ f0 0 0) (2 ^ s_n σ - 1) (2 ^ s_n σ)))) rfl 3 (by decide) (hts _ flX10_37) (fun _ h => h) rfl dX10_loads_73 ?_
            refine va_get (D := D) (ci := 6) (v := .int (oI (fst (abP σ f0 0 0) (2 ^ s_n σ)))) (C := RX6) (T := TX6) (N := 8) hx hb hts ni6 hown hK hP 10 (cw_c10 cy ad aw σ (ju_il (ju_ia (ju_ms (ju_mw (ju_le (ju_hs (ju_hm J (nI (cntN (abP σ f0 0 0) (2 ^ s_n σ)))) (nI (cntN (asP σ f0 0 0) (2 ^ s_n σ)))) (oI (fst (abP σ f0 0 0) (2 ^ s_n σ)))) (oI (bst (abP σ f0 0 0) (wiA σ) (2 ^ s_n σ)))) (msI (abP σ f0 0 0) (wiA σ) (2 ^ s_n σ))) (iaI (abP σ f0 0 0) (2 ^ s_n σ))) (ilI (abP σ f0 0 0) (2 ^ s_n σ - 1) (2 ^ s_n σ)))) rfl 3 (by decide) (hts _ flX10_209) (fun _ h => h) rfl dX10_loads_76 ?_
            exact rw_i hx hb hr hlocks hS (ju_il (ju_ia (ju_ms (ju_mw (ju_le (ju_hs (ju_hm J (nI (cntN (abP σ f0 0 0) (2 ^ s_n σ)))) (nI (cntN (asP σ f0 0 0) (2 ^ s_n σ)))) (oI (fst (abP σ f0 0 0) (2 ^ s_n σ)))) (oI (bst (abP σ f0 0 0) (wiA σ) (2 ^ s_n σ)))) (msI (abP σ f0 0 0) (wiA σ) (2 ^ s_n σ))) (iaI (abP σ f0 0 0) (2 ^ s_n σ))) (ilI (abP σ f0 0 0) (2 ^ s_n σ - 1) (2 ^ s_n σ))) (⟨by rw [a_loads, c8, show isIx 4 _ = true from ixt (k := 3) (by decide) c15 c20, tk_nI (k := f0) (by omega), ab00]; rfl, (wfJ_sv hj _ _ _ _ _ _ _)⟩) hP dX10_loads_79
          · subst hsw
            have hl : lv_has ls 3 [(0, .ref (ad 0)), (1, .int (nI (f0))), (2, .int (nI (2)))] := hl
            refine lv_tableIn (tgt := 80) hx hb dX10_loads_37 (by decide) (by decide) rfl (by decide) ?_
            refine lv_aload_n hx hb dX10_loads_80 rfl (lv_at hl 0 rfl) ?_
            refine va_get (D := D) (ci := 9) (v := .ref (ad 10)) (C := RX10) (T := TX10) (N := 8) hx hb hts ni10 hown hK hP 0 (cw_c0 cy ad aw σ (ju_il (ju_ia (ju_ms (ju_mw (ju_le (ju_hs (ju_hm J (nI (cntN (abP σ f0 0 0) (2 ^ s_n σ)))) (nI (cntN (asP σ f0 0 0) (2 ^ s_n σ)))) (oI (fst (abP σ f0 0 0) (2 ^ s_n σ)))) (oI (bst (abP σ f0 0 0) (wiA σ) (2 ^ s_n σ)))) (msI (abP σ f0 0 0) (wiA σ) (2 ^ s_n σ))) (iaI (abP σ f0 0 0) (2 ^ s_n σ))) (ilI (abP σ f0 0 0) (2 ^ s_n σ - 1) (2 ^ s_n σ)))) rfl 3 (by decide) (hts _ flX10_37) (fun _ h => h) rfl dX10_loads_81 ?_
            refine va_get (D := D) (ci := 6) (v := .int (oI (bst (abP σ f0 0 0) (wiA σ) (2 ^ s_n σ)))) (C := RX6) (T := TX6) (N := 8) hx hb hts ni6 hown hK hP 10 (cw_c10 cy ad aw σ (ju_il (ju_ia (ju_ms (ju_mw (ju_le (ju_hs (ju_hm J (nI (cntN (abP σ f0 0 0) (2 ^ s_n σ)))) (nI (cntN (asP σ f0 0 0) (2 ^ s_n σ)))) (oI (fst (abP σ f0 0 0) (2 ^ s_n σ)))) (oI (bst (abP σ f0 0 0) (wiA σ) (2 ^ s_n σ)))) (msI (abP σ f0 0 0) (wiA σ) (2 ^ s_n σ))) (iaI (abP σ f0 0 0) (2 ^ s_n σ))) (ilI (abP σ f0 0 0) (2 ^ s_n σ - 1) (2 ^ s_n σ)))) rfl 4 (by decide) (hts _ flX10_212) (fun _ h => h) rfl dX10_loads_84 ?_
            exact rw_i hx hb hr hlocks hS (ju_il (ju_ia (ju_ms (ju_mw (ju_le (ju_hs (ju_hm J (nI (cntN (abP σ f0 0 0) (2 ^ s_n σ)))) (nI (cntN (asP σ f0 0 0) (2 ^ s_n σ)))) (oI (fst (abP σ f0 0 0) (2 ^ s_n σ)))) (oI (bst (abP σ f0 0 0) (wiA σ) (2 ^ s_n σ)))) (msI (abP σ f0 0 0) (wiA σ) (2 ^ s_n σ))) (iaI (abP σ f0 0 0) (2 ^ s_n σ))) (ilI (abP σ f0 0 0) (2 ^ s_n σ - 1) (2 ^ s_n σ))) (⟨by rw [a_loads, c8, show isIx 4 _ = true from ixt (k := 3) (by decide) c15 c20, tk_nI (k := f0) (by omega), ab00]; rfl, (wfJ_sv hj _ _ _ _ _ _ _)⟩) hP dX10_loads_87
        · refine lv_tableOut (tgt := 88) hx hb dX10_loads_37 (sw_out (n := 2) (by decide) hout (by decide)) (by decide) ?_
          refine lv_aload_n hx hb dX10_loads_88 rfl (lv_at hl 0 rfl) ?_
          refine va_get (D := D) (ci := 9) (v := .ref (ad 10)) (C := RX10) (T := TX10) (N := 8) hx hb hts ni10 hown hK hP 0 (cw_c0 cy ad aw σ (ju_il (ju_ia (ju_ms (ju_mw (ju_le (ju_hs (ju_hm J (nI (cntN (abP σ f0 0 0) (2 ^ s_n σ)))) (nI (cntN (asP σ f0 0 0) (2 ^ s_n σ)))) (oI (fst (abP σ f0 0 0) (2 ^ s_n σ)))) (oI (bst (abP σ f0 0 0) (wiA σ) (2 ^ s_n σ)))) (msI (abP σ f0 0 0) (wiA σ) (2 ^ s_n σ))) (iaI (abP σ f0 0 0) (2 ^ s_n σ))) (ilI (abP σ f0 0 0) (2 ^ s_n σ - 1) (2 ^ s_n σ)))) rfl 3 (by decide) (hts _ flX10_37) (fun _ h => h) rfl dX10_loads_89 ?_
          refine va_get (D := D) (ci := 6) (v := .int (msI (abP σ f0 0 0) (wiA σ) (2 ^ s_n σ))) (C := RX6) (T := TX6) (N := 8) hx hb hts ni6 hown hK hP 10 (cw_c10 cy ad aw σ (ju_il (ju_ia (ju_ms (ju_mw (ju_le (ju_hs (ju_hm J (nI (cntN (abP σ f0 0 0) (2 ^ s_n σ)))) (nI (cntN (asP σ f0 0 0) (2 ^ s_n σ)))) (oI (fst (abP σ f0 0 0) (2 ^ s_n σ)))) (oI (bst (abP σ f0 0 0) (wiA σ) (2 ^ s_n σ)))) (msI (abP σ f0 0 0) (wiA σ) (2 ^ s_n σ))) (iaI (abP σ f0 0 0) (2 ^ s_n σ))) (ilI (abP σ f0 0 0) (2 ^ s_n σ - 1) (2 ^ s_n σ)))) rfl 5 (by decide) (hts _ flX10_215) (fun _ h => h) rfl dX10_loads_92 ?_
          exact rw_i hx hb hr hlocks hS (ju_il (ju_ia (ju_ms (ju_mw (ju_le (ju_hs (ju_hm J (nI (cntN (abP σ f0 0 0) (2 ^ s_n σ)))) (nI (cntN (asP σ f0 0 0) (2 ^ s_n σ)))) (oI (fst (abP σ f0 0 0) (2 ^ s_n σ)))) (oI (bst (abP σ f0 0 0) (wiA σ) (2 ^ s_n σ)))) (msI (abP σ f0 0 0) (wiA σ) (2 ^ s_n σ))) (iaI (abP σ f0 0 0) (2 ^ s_n σ))) (ilI (abP σ f0 0 0) (2 ^ s_n σ - 1) (2 ^ s_n σ))) (⟨by rw [v3_of (ixt (k := 3) (by decide) c15 c20) hout]; rw [a_loads, c8, tk_nI (k := f0) (by omega), ab00]; rfl, (wfJ_sv hj _ _ _ _ _ _ _)⟩) hP dX10_loads_95
      · refine lv_bipush (v := -3) hx hb dX10_loads_23 (by decide) ?_
        exact rw_i hx hb hr hlocks hS J (⟨by first | (rw [a_loads, c8, ixf1 (by decide) c15]; rfl; done) | (rw [a_loads, c8, ixf2 (k := 3) (by decide) c20]; rfl), hj⟩) hP dX10_loads_25
  · refine lv_bipush (v := -2) hx hb dX10_loads_11 (by decide) ?_
    exact rw_i hx hb hr hlocks hS J (⟨by rw [a_loads, c8]; rfl, hj⟩) hP dX10_loads_13
set_option maxHeartbeats 4000000 in
set_option maxRecDepth 100000 in
theorem k_X10_aboard (l : Launch) (D : va_G) (cy : Nat → ClassId) (ad aw : Nat → Nat) (σ : Sg) (J : Js) (f ii oo w : Int32) (hw : wfS σ) (hj : wfJ σ J) : MW l yX10_aboard qX10_aboard 6 [.ref (ad 0), .int (f), .int (ii), .int (oo), .int (w)] D cy (cw cy ad aw σ J) (fun (r : Int32) (u : Js) => r = a_aboard σ f ii oo w ∧ wfJ (σ) u) (fun u : Js => cw cy ad aw (σ) u) := by
  intro sz
  refine Met.ofW (cc := cX10_aboard) (maxL := 5) (ret := (some .int)) (by decide) rfl ?_
  intro p e s m args below meth c s₁ B hml hv
  obtain ⟨rfl, rfl, hP, hK, hN, hD0⟩ := hv
  have hx := B.exec
  have hb := B.bytes
  have hr := B.returns
  have hlocks := B.notSynchronized
  have hts : ∀ cq ∈ tg, cq.before ([.ref (ad 0), .int (f), .int (ii), .int (oo), .int (w)] : List Value).toArray s = true := fun cq h => atoms_spec (ws := qX10_aboard) B.pre cq (List.mem_cons_of_mem _ h)
  have hown : s.vm.findClass RX10 = some m.cls := findClass_of_methodNamed B.named
  have hD := hD0.self (sz := s.heap.size)
  generalize hAe : va_A (cw cy ad aw σ J) s.heap.size = A at hD ⊢
  have hA : ∀ q : Nat, s.heap.size ≤ q → A q := fun q h => by rw [← hAe]; exact Or.inr h
  have hS : va_S A s.heap s.heap [] := va_S.rf
  have hl := lv_entry ([.ref (ad 0), .int (f), .int (ii), .int (oo), .int (w)]) (n := 5) (Nat.le_of_ble_eq_true rfl)
  rw [lg_entry_eq]
  generalize (lg_sl ([.ref (ad 0), .int (f), .int (ii), .int (oo), .int (w)]) ++ List.replicate (5 - (lg_sl ([.ref (ad 0), .int (f), .int (ii), .int (oo), .int (w)])).length) Slot.unset).toArray = ls at hl ⊢
  have hl : lv_has ls 5 [(0, .ref (ad 0)), (1, .int (f)), (2, .int (ii)), (3, .int (oo)), (4, .int (w))] := hl
  have hw1 := hw.1
  have hw2 := hw.2.1
  have hp8 := pw_8 hw1
  have hpp := pw_pos (s_n σ)
  have hov := ov_lt hw
  have hmo := mo_lt hw
  have hof := of_lt hw
  refine lv_aload_n hx hb dX10_aboard_0 rfl (lv_at hl 0 rfl) ?_
  refine va_get (D := D) (ci := 9) (v := .ref (ad 3)) (C := RX10) (T := TX10) (N := 8) hx hb hts ni10 hown hK hP 0 (cw_c0 cy ad aw σ J) rfl 1 (by decide) (hts _ flX10_19) (fun _ h => h) rfl dX10_aboard_1 ?_
  refine lv_iload_n hx hb dX10_aboard_4 rfl (lv_at hl 1 rfl) ?_
  refine cr_v (n := 1) (As := [.int (f)]) (rest := []) ⟨hx, hb, hml, hown, hts⟩ (k_X3_hasFerry l D cy ad aw σ J (f) hw) gvX10_139 (by decide +kernel) ⟨Nat.le_of_ble_eq_true rfl, Nat.le_of_ble_eq_true rfl⟩ hK hN hP 3 (cw_c3 cy ad aw σ J) rfl rfl hl.1 rfl (Nat.le_of_ble_eq_true rfl) dX10_aboard_5 ⟨Nat.zero_le _, Nat.zero_le _⟩ ?_
  refine lb_if_eq (tgt := 33) hx hb dX10_aboard_8 (by decide) (fun c8 => ?_) (fun c8 => ?_)
  · refine lv_bipush (v := -2) hx hb dX10_aboard_33 (by decide) ?_
    exact rw_i hx hb hr hlocks hS J (⟨by first | (rw [a_aboard, c8]; rfl; done) | (rw [a_aboard, c8, c19]; rfl; done) | (rw [a_aboard, c8, c19, c30]; rfl), hj⟩) hP dX10_aboard_35
  · refine lv_aload_n hx hb dX10_aboard_11 rfl (lv_at hl 0 rfl) ?_
    refine va_get (D := D) (ci := 9) (v := .ref (ad 3)) (C := RX10) (T := TX10) (N := 8) hx hb hts ni10 hown hK hP 0 (cw_c0 cy ad aw σ J) rfl 1 (by decide) (hts _ flX10_19) (fun _ h => h) rfl dX10_aboard_12 ?_
    refine lv_iload_n hx hb dX10_aboard_15 rfl (lv_at hl 2 rfl) ?_
    refine cr_v (n := 1) (As := [.int (ii)]) (rest := []) ⟨hx, hb, hml, hown, hts⟩ (k_X3_hasAll l D cy ad aw σ J (ii) hw) gvX10_172 (by decide +kernel) ⟨Nat.le_of_ble_eq_true rfl, Nat.le_of_ble_eq_true rfl⟩ hK hN hP 3 (cw_c3 cy ad aw σ J) rfl rfl hl.1 rfl (Nat.le_of_ble_eq_true rfl) dX10_aboard_16 ⟨Nat.zero_le _, Nat.zero_le _⟩ ?_
    refine lb_if_eq (tgt := 33) hx hb dX10_aboard_19 (by decide) (fun c19 => ?_) (fun c19 => ?_)
    · refine lv_bipush (v := -2) hx hb dX10_aboard_33 (by decide) ?_
      exact rw_i hx hb hr hlocks hS J (⟨by first | (rw [a_aboard, c8]; rfl; done) | (rw [a_aboard, c8, c19]; rfl; done) | (rw [a_aboard, c8, c19, c30]; rfl), hj⟩) hP dX10_aboard_35
    · refine lv_aload_n hx hb dX10_aboard_22 rfl (lv_at hl 0 rfl) ?_
      refine va_get (D := D) (ci := 9) (v := .ref (ad 3)) (C := RX10) (T := TX10) (N := 8) hx hb hts ni10 hown hK hP 0 (cw_c0 cy ad aw σ J) rfl 1 (by decide) (hts _ flX10_19) (fun _ h => h) rfl dX10_aboard_23 ?_
      refine lv_iload_n hx hb dX10_aboard_26 rfl (lv_at hl 3 rfl) ?_
      refine cr_v (n := 1) (As := [.int (oo)]) (rest := []) ⟨hx, hb, hml, hown, hts⟩ (k_X3_hasAll l D cy ad aw σ J (oo) hw) gvX10_172 (by decide +kernel) ⟨Nat.le_of_ble_eq_true rfl, Nat.le_of_ble_eq_true rfl⟩ hK hN hP 3 (cw_c3 cy ad aw σ J) rfl rfl hl.1 rfl (Nat.le_of_ble_eq_true rfl) dX10_aboard_27 ⟨Nat.zero_le _, Nat.zero_le _⟩ ?_
      refine lb_if_ne (tgt := 36) hx hb dX10_aboard_30 (by decide) (fun c30 => ?_) (fun c30 => ?_)
      · obtain ⟨f0, hf, rfl⟩ := ix_of c8 (by omega)
        have hl : lv_has ls 5 [(0, .ref (ad 0)), (1, .int (nI (f0))), (2, .int (ii)), (3, .int (oo)), (4, .int (w))] := hl
        obtain ⟨i0, hi0, rfl⟩ := ix_of c19 (by omega)
        have hl : lv_has ls 5 [(0, .ref (ad 0)), (1, .int (nI (f0))), (2, .int (nI (i0))), (3, .int (oo)), (4, .int (w))] := hl
        obtain ⟨o0, ho0, rfl⟩ := ix_of c30 (by omega)
        have hl : lv_has ls 5 [(0, .ref (ad 0)), (1, .int (nI (f0))), (2, .int (nI (i0))), (3, .int (nI (o0))), (4, .int (w))] := hl
        refine lv_iload hx hb dX10_aboard_36 (lv_at hl 4 rfl) ?_
        refine lv_if_lt (tgt := 47) hx hb dX10_aboard_38 (by decide) (fun c38 => ?_) (fun c38 => ?_)
        · refine lv_bipush (v := -3) hx hb dX10_aboard_47 (by decide) ?_
          exact rw_i hx hb hr hlocks hS J (⟨by first | (rw [a_aboard, c8, c19, c30, ixf1 (by decide) c38]; rfl; done) | (rw [a_aboard, c8, c19, c30, ixf2 (k := 2) (by decide) c44]; rfl), hj⟩) hP dX10_aboard_49
        · refine lv_iload hx hb dX10_aboard_41 (lv_at hl 4 rfl) ?_
          refine lv_iconst (v := nI 2) hx hb dX10_aboard_43 (by decide) ?_
          refine lv_icmp_le (tgt := 50) hx hb dX10_aboard_44 (by decide) (fun c44 => ?_) (fun c44 => ?_)
          · obtain ⟨w0, hw0, rfl⟩ := ix_of (ixt (k := 2) (by decide) c38 c44) (by decide)
            have hl : lv_has ls 5 [(0, .ref (ad 0)), (1, .int (nI (f0))), (2, .int (nI (i0))), (3, .int (nI (o0))), (4, .int (nI (w0)))] := hl
            refine lv_aload_n hx hb dX10_aboard_50 rfl (lv_at hl 0 rfl) ?_
            refine va_get (D := D) (ci := 9) (v := .ref (ad 10)) (C := RX10) (T := TX10) (N := 8) hx hb hts ni10 hown hK hP 0 (cw_c0 cy ad aw σ J) rfl 3 (by decide) (hts _ flX10_37) (fun _ h => h) rfl dX10_aboard_51 ?_
            refine lv_iload_n hx hb dX10_aboard_54 rfl (lv_at hl 1 rfl) ?_
            refine lv_iload_n hx hb dX10_aboard_55 rfl (lv_at hl 2 rfl) ?_
            refine lv_iload_n hx hb dX10_aboard_56 rfl (lv_at hl 3 rfl) ?_
            refine cr_vv (n := 3) (As := [.int (nI (f0)), .int (nI (i0)), .int (nI (o0))]) (rest := []) ⟨hx, hb, hml, hown, hts⟩ (k_X6_make l D cy ad aw σ J f0 i0 o0 hw hj (by omega) (by omega) (by omega)) gvX10_202 (by decide +kernel) ⟨Nat.le_of_ble_eq_true rfl, Nat.le_of_ble_eq_true rfl⟩ hK hN hP hD hS hA 10 (cw_c10 cy ad aw σ J) rfl rfl hl.1 rfl (Nat.le_of_ble_eq_true rfl) dX10_aboard_57 ⟨Nat.zero_le _, Nat.zero_le _⟩ (fun _ => (cw_ad _ _ _ _ _).trans (cw_ad _ _ _ _ _).symm) (fun u1 H locs hpu1 hP hD hS => ?_)
            have hP : va_P D vwCl (cw cy ad aw σ (ju_il (ju_ia (ju_ms (ju_mw (ju_le (ju_hs (ju_hm J (nI (cntN (abP σ f0 i0 o0) (2 ^ s_n σ)))) (nI (cntN (asP σ f0 i0 o0) (2 ^ s_n σ)))) (oI (fst (abP σ f0 i0 o0) (2 ^ s_n σ)))) (oI (bst (abP σ f0 i0 o0) (wiA σ) (2 ^ s_n σ)))) (msI (abP σ f0 i0 o0) (wiA σ) (2 ^ s_n σ))) (iaI (abP σ f0 i0 o0) (2 ^ s_n σ))) (ilI (abP σ f0 i0 o0) (2 ^ s_n σ - 1) (2 ^ s_n σ)))) H := hP
            have hD : va_D A (cw cy ad aw σ (ju_il (ju_ia (ju_ms (ju_mw (ju_le (ju_hs (ju_hm J (nI (cntN (abP σ f0 i0 o0) (2 ^ s_n σ)))) (nI (cntN (asP σ f0 i0 o0) (2 ^ s_n σ)))) (oI (fst (abP σ f0 i0 o0) (2 ^ s_n σ)))) (oI (bst (abP σ f0 i0 o0) (wiA σ) (2 ^ s_n σ)))) (msI (abP σ f0 i0 o0) (wiA σ) (2 ^ s_n σ))) (iaI (abP σ f0 i0 o0) (2 ^ s_n σ))) (ilI (abP σ f0 i0 o0) (2 ^ s_n σ - 1) (2 ^ s_n σ)))) := hD
            refine lv_iload hx hb dX10_aboard_60 (lv_at hl 4 rfl) ?_
            rcases (show w0 = 0 ∨ w0 = 1 ∨ w0 = 2 by omega) with rfl | rfl | rfl
            · refine lv_lookup (tgt := 88) hx hb dX10_aboard_62 (by decide) rfl (by decide) ?_
              refine lv_aload_n hx hb dX10_aboard_88 rfl (lv_at hl 0 rfl) ?_
              refine va_get (D := D) (ci := 9) (v := .ref (ad 10)) (C := RX10) (T := TX10) (N := 8) hx hb hts ni10 hown hK hP 0 (cw_c0 cy ad aw σ (ju_il (ju_ia (ju_ms (ju_mw (ju_le (ju_hs (ju_hm J (nI (cntN (abP σ f0 i0 o0) (2 ^ s_n σ)))) (nI (cntN (asP σ f0 i0 o0) (2 ^ s_n σ)))) (oI (fst (abP σ f0 i0 o0) (2 ^ s_n σ)))) (oI (bst (abP σ f0 i0 o0) (wiA σ) (2 ^ s_n σ)))) (msI (abP σ f0 i0 o0) (wiA σ) (2 ^ s_n σ))) (iaI (abP σ f0 i0 o0) (2 ^ s_n σ))) (ilI (abP σ f0 i0 o0) (2 ^ s_n σ - 1) (2 ^ s_n σ)))) rfl 3 (by decide) (hts _ flX10_37) (fun _ h => h) rfl dX10_aboard_89 ?_
              refine va_get (D := D) (ci := 6) (v := .int (nI (cntN (abP σ f0 i0 o0) (2 ^ s_n σ)))) (C := RX6) (T := TX6) (N := 8) hx hb hts ni6 hown hK hP 10 (cw_c10 cy ad aw σ (ju_il (ju_ia (ju_ms (ju_mw (ju_le (ju_hs (ju_hm J (nI (cntN (abP σ f0 i0 o0) (2 ^ s_n σ)))) (nI (cntN (asP σ f0 i0 o0) (2 ^ s_n σ)))) (oI (fst (abP σ f0 i0 o0) (2 ^ s_n σ)))) (oI (bst (abP σ f0 i0 o0) (wiA σ) (2 ^ s_n σ)))) (msI (abP σ f0 i0 o0) (wiA σ) (2 ^ s_n σ))) (iaI (abP σ f0 i0 o0) (2 ^ s_n σ))) (ilI (abP σ f0 i0 o0) (2 ^ s_n σ - 1) (2 ^ s_n σ)))) rfl 1 (by decide) (hts _ flX10_206) (fun _ h => h) rfl dX10_aboard_92 ?_
              exact rw_i hx hb hr hlocks hS (ju_il (ju_ia (ju_ms (ju_mw (ju_le (ju_hs (ju_hm J (nI (cntN (abP σ f0 i0 o0) (2 ^ s_n σ)))) (nI (cntN (asP σ f0 i0 o0) (2 ^ s_n σ)))) (oI (fst (abP σ f0 i0 o0) (2 ^ s_n σ)))) (oI (bst (abP σ f0 i0 o0) (wiA σ) (2 ^ s_n σ)))) (msI (abP σ f0 i0 o0) (wiA σ) (2 ^ s_n σ))) (iaI (abP σ f0 i0 o0) (2 ^ s_n σ))) (ilI (abP σ f0 i0 o0) (2 ^ s_n σ - 1) (2 ^ s_n σ))) (⟨by rw [a_aboard, c8, c19, c30, show isIx 3 _ = true from ixt (k := 2) (by decide) c38 c44, tk_nI (k := f0) (by omega), tk_nI (k := i0) (by omega), tk_nI (k := o0) (by omega)]; first | rfl | (show ilI _ _ _ = if cntN _ _ = 0 then -1 else _; rfl), (wfJ_sv hj _ _ _ _ _ _ _)⟩) hP dX10_aboard_95
            · refine lv_lookup (tgt := 96) hx hb dX10_aboard_62 (by decide) rfl (by decide) ?_
              refine lv_aload_n hx hb dX10_aboard_96 rfl (lv_at hl 0 rfl) ?_
              refine va_get (D := D) (ci := 9) (v := .ref (ad 10)) (C := RX10) (T := TX10) (N := 8) hx hb hts ni10 hown hK hP 0 (cw_c0 cy ad aw σ (ju_il (ju_ia (ju_ms (ju_mw (ju_le (ju_hs (ju_hm J (nI (cntN (abP σ f0 i0 o0) (2 ^ s_n σ)))) (nI (cntN (asP σ f0 i0 o0) (2 ^ s_n σ)))) (oI (fst (abP σ f0 i0 o0) (2 ^ s_n σ)))) (oI (bst (abP σ f0 i0 o0) (wiA σ) (2 ^ s_n σ)))) (msI (abP σ f0 i0 o0) (wiA σ) (2 ^ s_n σ))) (iaI (abP σ f0 i0 o0) (2 ^ s_n σ))) (ilI (abP σ f0 i0 o0) (2 ^ s_n σ - 1) (2 ^ s_n σ)))) rfl 3 (by decide) (hts _ flX10_37) (fun _ h => h) rfl dX10_aboard_97 ?_
              refine va_get (D := D) (ci := 6) (v := .int (iaI (abP σ f0 i0 o0) (2 ^ s_n σ))) (C := RX6) (T := TX6) (N := 8) hx hb hts ni6 hown hK hP 10 (cw_c10 cy ad aw σ (ju_il (ju_ia (ju_ms (ju_mw (ju_le (ju_hs (ju_hm J (nI (cntN (abP σ f0 i0 o0) (2 ^ s_n σ)))) (nI (cntN (asP σ f0 i0 o0) (2 ^ s_n σ)))) (oI (fst (abP σ f0 i0 o0) (2 ^ s_n σ)))) (oI (bst (abP σ f0 i0 o0) (wiA σ) (2 ^ s_n σ)))) (msI (abP σ f0 i0 o0) (wiA σ) (2 ^ s_n σ))) (iaI (abP σ f0 i0 o0) (2 ^ s_n σ))) (ilI (abP σ f0 i0 o0) (2 ^ s_n σ - 1) (2 ^ s_n σ)))) rfl 6 (by decide) (hts _ flX10_242) (fun _ h => h) rfl dX10_aboard_100 ?_
              exact rw_i hx hb hr hlocks hS (ju_il (ju_ia (ju_ms (ju_mw (ju_le (ju_hs (ju_hm J (nI (cntN (abP σ f0 i0 o0) (2 ^ s_n σ)))) (nI (cntN (asP σ f0 i0 o0) (2 ^ s_n σ)))) (oI (fst (abP σ f0 i0 o0) (2 ^ s_n σ)))) (oI (bst (abP σ f0 i0 o0) (wiA σ) (2 ^ s_n σ)))) (msI (abP σ f0 i0 o0) (wiA σ) (2 ^ s_n σ))) (iaI (abP σ f0 i0 o0) (2 ^ s_n σ))) (ilI (abP σ f0 i0 o0) (2 ^ s_n σ - 1) (2 ^ s_n σ))) (⟨by rw [a_aboard, c8, c19, c30, show isIx 3 _ = true from ixt (k := 2) (by decide) c38 c44, tk_nI (k := f0) (by omega), tk_nI (k := i0) (by omega), tk_nI (k := o0) (by omega)]; first | rfl | (show ilI _ _ _ = if cntN _ _ = 0 then -1 else _; rfl), (wfJ_sv hj _ _ _ _ _ _ _)⟩) hP dX10_aboard_103
            · refine lv_lookup (tgt := 104) hx hb dX10_aboard_62 (by decide) rfl (by decide) ?_
              refine lv_aload_n hx hb dX10_aboard_104 rfl (lv_at hl 0 rfl) ?_
              refine va_get (D := D) (ci := 9) (v := .ref (ad 10)) (C := RX10) (T := TX10) (N := 8) hx hb hts ni10 hown hK hP 0 (cw_c0 cy ad aw σ (ju_il (ju_ia (ju_ms (ju_mw (ju_le (ju_hs (ju_hm J (nI (cntN (abP σ f0 i0 o0) (2 ^ s_n σ)))) (nI (cntN (asP σ f0 i0 o0) (2 ^ s_n σ)))) (oI (fst (abP σ f0 i0 o0) (2 ^ s_n σ)))) (oI (bst (abP σ f0 i0 o0) (wiA σ) (2 ^ s_n σ)))) (msI (abP σ f0 i0 o0) (wiA σ) (2 ^ s_n σ))) (iaI (abP σ f0 i0 o0) (2 ^ s_n σ))) (ilI (abP σ f0 i0 o0) (2 ^ s_n σ - 1) (2 ^ s_n σ)))) rfl 3 (by decide) (hts _ flX10_37) (fun _ h => h) rfl dX10_aboard_105 ?_
              refine va_get (D := D) (ci := 6) (v := .int (ilI (abP σ f0 i0 o0) (2 ^ s_n σ - 1) (2 ^ s_n σ))) (C := RX6) (T := TX6) (N := 8) hx hb hts ni6 hown hK hP 10 (cw_c10 cy ad aw σ (ju_il (ju_ia (ju_ms (ju_mw (ju_le (ju_hs (ju_hm J (nI (cntN (abP σ f0 i0 o0) (2 ^ s_n σ)))) (nI (cntN (asP σ f0 i0 o0) (2 ^ s_n σ)))) (oI (fst (abP σ f0 i0 o0) (2 ^ s_n σ)))) (oI (bst (abP σ f0 i0 o0) (wiA σ) (2 ^ s_n σ)))) (msI (abP σ f0 i0 o0) (wiA σ) (2 ^ s_n σ))) (iaI (abP σ f0 i0 o0) (2 ^ s_n σ))) (ilI (abP σ f0 i0 o0) (2 ^ s_n σ - 1) (2 ^ s_n σ)))) rfl 7 (by decide) (hts _ flX10_245) (fun _ h => h) rfl dX10_aboard_108 ?_
              exact rw_i hx hb hr hlocks hS (ju_il (ju_ia (ju_ms (ju_mw (ju_le (ju_hs (ju_hm J (nI (cntN (abP σ f0 i0 o0) (2 ^ s_n σ)))) (nI (cntN (asP σ f0 i0 o0) (2 ^ s_n σ)))) (oI (fst (abP σ f0 i0 o0) (2 ^ s_n σ)))) (oI (bst (abP σ f0 i0 o0) (wiA σ) (2 ^ s_n σ)))) (msI (abP σ f0 i0 o0) (wiA σ) (2 ^ s_n σ))) (iaI (abP σ f0 i0 o0) (2 ^ s_n σ))) (ilI (abP σ f0 i0 o0) (2 ^ s_n σ - 1) (2 ^ s_n σ))) (⟨by rw [a_aboard, c8, c19, c30, show isIx 3 _ = true from ixt (k := 2) (by decide) c38 c44, tk_nI (k := f0) (by omega), tk_nI (k := i0) (by omega), tk_nI (k := o0) (by omega)]; first | rfl | (show ilI _ _ _ = if cntN _ _ = 0 then -1 else _; rfl), (wfJ_sv hj _ _ _ _ _ _ _)⟩) hP dX10_aboard_111
          · refine lv_bipush (v := -3) hx hb dX10_aboard_47 (by decide) ?_
            exact rw_i hx hb hr hlocks hS J (⟨by first | (rw [a_aboard, c8, c19, c30, ixf1 (by decide) c38]; rfl; done) | (rw [a_aboard, c8, c19, c30, ixf2 (k := 2) (by decide) c44]; rfl), hj⟩) hP dX10_aboard_49
      · refine lv_bipush (v := -2) hx hb dX10_aboard_33 (by decide) ?_
        exact rw_i hx hb hr hlocks hS J (⟨by first | (rw [a_aboard, c8]; rfl; done) | (rw [a_aboard, c8, c19]; rfl; done) | (rw [a_aboard, c8, c19, c30]; rfl), hj⟩) hP dX10_aboard_35
