def gI (σ : Sg) (o : Nat) (lo hi : Int32) : Bool := tNum σ o && decide (lo ≤ nI (tN σ o) ∧ nI (tN σ o) ≤ hi)
def numP (σ : Sg) (o : Nat) (lo hi : Int32) (j : Nat) (T : Ms) (r : Int32) (u : Ms) : Prop := r = bI (gI σ o lo hi) ∧ (gI σ o lo hi = true → m_po u = nI (tE σ o) ∧ m_ta u = nI (tB σ o) ∧ m_rm u = m_rm T ∧ m_rt u = m_rt T ∧ m_rf u = m_rf T ∧ m_rk u = m_rk T ∧ m_rd u = upd (m_rd T) j (nI (tN σ o))) ∧ (gI σ o lo hi = false → m_fa u = nI (tB σ o))
set_option maxHeartbeats 4000000 in
set_option maxRecDepth 100000 in
theorem k_X11_fails (l : Launch) (D : va_G) (cy : Nat → ClassId) (ad : Nat → Nat) (σ : Sg) (T : Ms)   : MW l yX11_fails qX11_fails 1 [.ref (ad 0)] D cy (mw cy ad σ T) (fun (r : Int32) (u : Ms) => r = bI false ∧ m_fa u = m_ta T) (fun u : Ms => mw cy ad σ u) := by
  intro sz
  refine Met.ofW (cc := cX11_fails) (maxL := 1) (ret := (some .boolean)) (by decide) rfl ?_
  intro p e s m args below meth c s₁ B hml hv
  obtain ⟨rfl, rfl, hP, hK, hN, hD0⟩ := hv
  have hx := B.exec
  have hb := B.bytes
  have hr := B.returns
  have hlocks := B.notSynchronized
  have hts : ∀ cq ∈ tg, cq.before ([.ref (ad 0)] : List Value).toArray s = true := fun cq h => atoms_spec (ws := qX11_fails) B.pre cq (List.mem_cons_of_mem _ h)
  have hown : s.vm.findClass RX11 = some m.cls := findClass_of_methodNamed B.named
  have hD := hD0.self (sz := s.heap.size)
  generalize hAe : va_A (mw cy ad σ T) s.heap.size = A at hD ⊢
  have hA : ∀ q : Nat, s.heap.size ≤ q → A q := fun q h => by rw [← hAe]; exact Or.inr h
  have hS : va_S A s.heap s.heap [] := va_S.rf
  have hl := lv_entry ([.ref (ad 0)]) (n := 1) (Nat.le_of_ble_eq_true rfl)
  rw [lg_entry_eq]
  generalize (lg_sl ([.ref (ad 0)]) ++ List.replicate (1 - (lg_sl ([.ref (ad 0)])).length) Slot.unset).toArray = ls at hl ⊢
  have hl : lv_has ls 1 [(0, .ref (ad 0))] := hl
  refine lv_aload_n hx hb dX11_fails_0 rfl (lv_at hl 0 rfl) ?_
  refine lv_aload_n hx hb dX11_fails_1 rfl (lv_at hl 0 rfl) ?_
  refine va_get (D := D) (ci := 10) (v := .int (m_ta T)) (C := RX11) (T := TX11) (N := 31) hx hb hts ni11 hown hK hP 0 (mw_c0 cy ad σ T) rfl 7 (by decide) (hts _ flX11_66) (fun _ h => h) rfl dX11_fails_2 ?_
  refine ln_put (ci := 10) (C := RX11) (T := TX11) (N := 31) (ty := .int) (v := .int (m_ta T)) hx hb hts ni11 tyX11 tyX11_ok nmX11 hown hK hP hD hS 0 (mw_c0 cy ad σ T) rfl 11 (by decide) (hts _ flX11_91) (fun _ h => h) rfl (by decide +kernel) rfl rfl (Nat.le_of_ble_eq_true rfl) (mp_0_11 cy ad σ T (m_ta T)) dX11_fails_5 (fun H locs hP hD hS => ?_)
  refine lv_iconst (v := nI 0) hx hb dX11_fails_8 (by decide) ?_
  refine ln_eq bI_f.symm ?_
  exact rw_z hx hb hr hlocks hS (mu_fa T (m_ta T)) (⟨rfl, rfl⟩) hP dX11_fails_9
set_option maxHeartbeats 4000000 in
set_option maxRecDepth 100000 in
theorem k_X11_isNumber (l : Launch) (D : va_G) (cy : Nat → ClassId) (ad : Nat → Nat) (σ : Sg) (T : Ms) (o j : Nat) (lo hi : Int32) (hw : wfS σ) (hpo : m_po T = nI o) (hp : o ≤ s_ln σ) (hj : j < 60) : MW l yX11_isNumber qX11_isNumber 3 [.ref (ad 0), .int (nI (j)), .int (lo), .int (hi)] D cy (mw cy ad σ T) (numP σ o lo hi j T) (fun u : Ms => mw cy ad σ u) := by
  intro sz
  refine Met.ofW (cc := cX11_isNumber) (maxL := 4) (ret := (some .boolean)) (by decide) rfl ?_
  intro p e s m args below meth c s₁ B hml hv
  obtain ⟨rfl, rfl, hP, hK, hN, hD0⟩ := hv
  have hx := B.exec
  have hb := B.bytes
  have hr := B.returns
  have hlocks := B.notSynchronized
  have hts : ∀ cq ∈ tg, cq.before ([.ref (ad 0), .int (nI (j)), .int (lo), .int (hi)] : List Value).toArray s = true := fun cq h => atoms_spec (ws := qX11_isNumber) B.pre cq (List.mem_cons_of_mem _ h)
  have hown : s.vm.findClass RX11 = some m.cls := findClass_of_methodNamed B.named
  have hD := hD0.self (sz := s.heap.size)
  generalize hAe : va_A (mw cy ad σ T) s.heap.size = A at hD ⊢
  have hA : ∀ q : Nat, s.heap.size ≤ q → A q := fun q h => by rw [← hAe]; exact Or.inr h
  have hS : va_S A s.heap s.heap [] := va_S.rf
  have hl := lv_entry ([.ref (ad 0), .int (nI (j)), .int (lo), .int (hi)]) (n := 4) (Nat.le_of_ble_eq_true rfl)
  rw [lg_entry_eq]
  generalize (lg_sl ([.ref (ad 0), .int (nI (j)), .int (lo), .int (hi)]) ++ List.replicate (4 - (lg_sl ([.ref (ad 0), .int (nI (j)), .int (lo), .int (hi)])).length) Slot.unset).toArray = ls at hl ⊢
  have hl : lv_has ls 4 [(0, .ref (ad 0)), (1, .int (nI (j))), (2, .int (lo)), (3, .int (hi))] := hl
  refine lv_aload_n hx hb dX11_isNumber_0 rfl (lv_at hl 0 rfl) ?_
  refine cr_vv (n := 0) (As := []) (rest := []) ⟨hx, hb, hml, hown, hts⟩ (k_X11_nextToken l D cy ad σ T o hw hpo hp) gvX11_94 (by decide +kernel) ⟨Nat.le_of_ble_eq_true rfl, Nat.le_of_ble_eq_true rfl⟩ hK hN hP hD hS hA 0 (mw_c0 cy ad σ T) rfl rfl hl.1 rfl (Nat.le_of_ble_eq_true rfl) dX11_isNumber_1 ⟨Nat.zero_le _, Nat.zero_le _⟩ (fun _ => (mw_ad _ _ _ _).trans (mw_ad _ _ _ _).symm) (fun u1 H locs hpu1 hP hD hS => ?_)
  obtain ⟨epo1, eta1, etk1, enu1, esr1⟩ := hpu1
  refine lv_aload_n hx hb dX11_isNumber_4 rfl (lv_at hl 0 rfl) ?_
  refine va_get (D := D) (ci := 10) (v := .long (m_tk u1)) (C := RX11) (T := TX11) (N := 31) hx hb hts ni11 hown hK hP 0 (mw_c0 cy ad σ u1) rfl 8 (by decide) (hts _ flX11_77) (fun _ h => h) rfl dX11_isNumber_5 ?_
  refine ll_eq (show (m_tk u1 : Int64) = tC σ o from etk1) ?_
  refine lv_ldc2 (v := -1) hx hb hown (hts _ cnX11_87) dX11_isNumber_8 ?_
  refine W.lcmp hx hb dX11_isNumber_11 ?_
  refine lv_if_ne (tgt := 27) hx hb dX11_isNumber_12 (by decide) (fun c12 => ?_) (fun c12 => ?_)
  · refine lv_aload_n hx hb dX11_isNumber_27 rfl (lv_at hl 0 rfl) ?_
    refine cr_w (n := 0) (As := []) (rest := []) ⟨hx, hb, hml, hown, hts⟩ (k_X11_fails l D cy ad σ u1 ) gvX11_97 (by decide +kernel) ⟨Nat.le_of_ble_eq_true rfl, Nat.le_of_ble_eq_true rfl⟩ hK hN hP hD hS hA 0 (mw_c0 cy ad σ u1) rfl rfl hl.1 rfl (Nat.le_of_ble_eq_true rfl) dX11_isNumber_28 ⟨Nat.zero_le _, Nat.zero_le _⟩ (fun _ => (mw_ad _ _ _ _).trans (mw_ad _ _ _ _).symm) (fun r3 u2 H locs hpu2 hP hD hS => ?_)
    obtain ⟨rfl, efa2⟩ := hpu2
    exact rw_z hx hb hr hlocks hS u2 (by have hg : gI σ o lo hi = false := (by unfold gI; first | rw [c24, Bool.and_false] | (cases hn : tNum σ o with | false => rfl | true => exact absurd ((lg_cmp_0 _ _).mpr ((tC_num hw hp).mpr hn)) c12)); rw [numP, hg]; exact ⟨rfl, fun q => absurd q (by decide), fun _ => efa2.trans eta1⟩) hP dX11_isNumber_31
  · refine lv_aload_n hx hb dX11_isNumber_15 rfl (lv_at hl 0 rfl) ?_
    refine va_get (D := D) (ci := 10) (v := .int (m_nu u1)) (C := RX11) (T := TX11) (N := 31) hx hb hts ni11 hown hK hP 0 (mw_c0 cy ad σ u1) rfl 10 (by decide) (hts _ flX11_72) (fun _ h => h) rfl dX11_isNumber_16 ?_
    refine ln_eq (show (m_nu u1) = (nI (tN σ o)) from enu1) ?_
    refine lv_iload_n hx hb dX11_isNumber_19 rfl (lv_at hl 2 rfl) ?_
    refine lv_iload_n hx hb dX11_isNumber_20 rfl (lv_at hl 3 rfl) ?_
    refine cr_s (n := 3) (As := [.int (nI (tN σ o)), .int (lo), .int (hi)]) (rest := []) ⟨hx, hb, hml, hown, hts⟩ (k_X11_in l (nI (tN σ o)) (lo) (hi)) gsX11_51 (by decide +kernel) ⟨Nat.le_of_ble_eq_true rfl, Nat.le_of_ble_eq_true rfl⟩ rfl hl.1 rfl (Nat.le_of_ble_eq_true rfl) dX11_isNumber_21 ⟨Nat.zero_le _, Nat.zero_le _⟩ ?_
    refine lb_if_ne (tgt := 32) hx hb dX11_isNumber_24 (by decide) (fun c24 => ?_) (fun c24 => ?_)
    · refine lv_aload_n hx hb dX11_isNumber_32 rfl (lv_at hl 0 rfl) ?_
      refine va_get (D := D) (ci := 10) (v := .ref (ad 5)) (C := RX11) (T := TX11) (N := 31) hx hb hts ni11 hown hK hP 0 (mw_c0 cy ad σ u1) rfl 16 (by decide) (hts _ flX11_22) (fun _ h => h) rfl dX11_isNumber_33 ?_
      refine lv_iload_n hx hb dX11_isNumber_36 rfl (lv_at hl 1 rfl) ?_
      refine lv_aload_n hx hb dX11_isNumber_37 rfl (lv_at hl 0 rfl) ?_
      refine va_get (D := D) (ci := 10) (v := .int (m_nu u1)) (C := RX11) (T := TX11) (N := 31) hx hb hts ni11 hown hK hP 0 (mw_c0 cy ad σ u1) rfl 10 (by decide) (hts _ flX11_72) (fun _ h => h) rfl dX11_isNumber_38 ?_
      refine ln_eq (show (m_nu u1) = (nI (tN σ o)) from enu1) ?_
      refine ln_iast hx hb hK hP hD hS 5 (mw_c5 cy ad σ u1) hj (by decide) (mp_5 cy ad σ u1 j (nI (tN σ o))) dX11_isNumber_41 (fun H locs hP hD hS => ?_)
      refine lv_iconst (v := nI 1) hx hb dX11_isNumber_42 (by decide) ?_
      refine ln_eq bI_t.symm ?_
      exact rw_z hx hb hr hlocks hS (mu_rd u1 (upd (m_rd u1) j (nI (tN σ o)))) (by have hg : gI σ o lo hi = true := (by unfold gI; rw [c24, Bool.and_true]; exact (tC_num hw hp).mp ((lg_cmp_0 _ _).mp c12)); rw [numP, hg]; exact ⟨rfl, fun _ => ⟨epo1, eta1, esr1.1, esr1.2.1, esr1.2.2.1, esr1.2.2.2.1, congrArg (fun z => upd z j (nI (tN σ o))) esr1.2.2.2.2⟩, fun q => absurd q (by decide)⟩) hP dX11_isNumber_43
    · refine lv_aload_n hx hb dX11_isNumber_27 rfl (lv_at hl 0 rfl) ?_
      refine cr_w (n := 0) (As := []) (rest := []) ⟨hx, hb, hml, hown, hts⟩ (k_X11_fails l D cy ad σ u1 ) gvX11_97 (by decide +kernel) ⟨Nat.le_of_ble_eq_true rfl, Nat.le_of_ble_eq_true rfl⟩ hK hN hP hD hS hA 0 (mw_c0 cy ad σ u1) rfl rfl hl.1 rfl (Nat.le_of_ble_eq_true rfl) dX11_isNumber_28 ⟨Nat.zero_le _, Nat.zero_le _⟩ (fun _ => (mw_ad _ _ _ _).trans (mw_ad _ _ _ _).symm) (fun r5 u4 H locs hpu4 hP hD hS => ?_)
      obtain ⟨rfl, efa4⟩ := hpu4
      exact rw_z hx hb hr hlocks hS u4 (by have hg : gI σ o lo hi = false := (by unfold gI; first | rw [c24, Bool.and_false] | (cases hn : tNum σ o with | false => rfl | true => exact absurd ((lg_cmp_0 _ _).mpr ((tC_num hw hp).mpr hn)) c12)); rw [numP, hg]; exact ⟨rfl, fun q => absurd q (by decide), fun _ => efa4.trans eta1⟩) hP dX11_isNumber_31
theorem tN_999 {σ : Sg} {o : Nat} : tN σ o ≤ 999 := by
  unfold tN
  split
  · rename_i hk
    refine nmN_999 (fun i hi => ?_)
    have hb : ¬ tB σ o = s_ln σ := fun h => by rw [tK, if_pos h] at hk; cases hk
    have hq : qL (s_tx σ (tB σ o)) = false := by
      cases hc : qL (s_tx σ (tB σ o)) with
      | false => rfl
      | true => rw [tK, if_neg hb, hc] at hk; cases hk
    have hd : qD (s_tx σ (tB σ o)) = true := by
      cases hc : qD (s_tx σ (tB σ o)) with
      | true => rfl
      | false => rw [tK, if_neg hb, hq, hc] at hk; cases hk
    have he := (tok_D hb hq hd).1
    exact rn_all (k := 201) (p := tB σ o) _ (by omega) (by show _ < tDe σ (tB σ o); rw [← he]; omega)
  · omega
theorem gI_in {σ : Sg} {o a b : Nat} (ha : a < 2 ^ 31) (hb : b < 2 ^ 31) : gI σ o (nI a) (nI b) = (tNum σ o && inB a b (tN σ o)) := by
  have h := @tN_999 σ o
  unfold gI inB
  congr 1
  rw [decide_eq_decide, nI_leI ha (by omega), nI_leI (by omega) hb]
theorem gI_lt {σ : Sg} {o n : Nat} (hn : n ≤ 8) : gI σ o (nI 0) (nI n - nI 1) = (tNum σ o && decide (tN σ o < n)) := by
  have h := @tN_999 σ o
  unfold gI
  congr 1
  rcases (show n = 0 ∨ 0 < n by omega) with rfl | h0
  · rw [decide_eq_decide]
    refine ⟨fun q => ?_, fun q => absurd q (by omega)⟩
    have h1 : nI (tN σ o) ≤ (-1 : Int32) := q.2
    have h2 : nI 0 ≤ (-1 : Int32) := Int32.le_trans q.1 h1
    exact absurd h2 (by decide)
  · have hs : nI n - nI 1 = nI (n - 1) := by
      rw [show n = (n - 1) + 1 by omega, ← nI_add]
      simp
    rw [hs, decide_eq_decide, nI_leI (by omega) (by omega), nI_leI (by omega) (by omega)]
    omega
/-- what the reference knows of the lines read so far -/
def RT (τ : Sg) (T : Ms) (o : Nat) : Prop := m_po T = nI o ∧ m_rt T = nI (s_n τ) ∧ m_rf T = nI (s_m τ) ∧ ∀ t, t < s_n τ → m_rk T t = nI (s_th τ (6 * t))
def LB (u : Ms) (j k : Nat) (l : List Nat) : Prop := m_rd u j = nI k ∧ ∀ i, i < l.length → m_rd u (j + 1 + i) = nI (lg l i)
def LnQ (σ τ : Sg) (o j : Nat) (T u : Ms) : Prop := match rLine σ τ o with
  | .inl f => m_fa u = nI f
  | .inr x => RT (doL τ x.2.1 x.2.2) u x.1 ∧ LB u j x.2.1 x.2.2 ∧ (∀ i, i < j → m_rd u i = m_rd T i) ∧ m_rm u = m_rm T
def LnP (σ τ : Sg) (o j : Nat) (T : Ms) (r : Int32) (u : Ms) : Prop := r = bI (rLine σ τ o).isRight ∧ LnQ σ τ o j T u
theorem LnP_f {σ τ : Sg} {o j f : Nat} {T u : Ms} (h : rLine σ τ o = .inl f) (hf : m_fa u = nI f) : LnP σ τ o j T (bI false) u := by rw [LnP, LnQ, h]; exact ⟨rfl, hf⟩
theorem LnP_t {σ τ : Sg} {o j : Nat} {T u : Ms} {x : Nat × Nat × List Nat} (h : rLine σ τ o = .inr x) (h1 : RT (doL τ x.2.1 x.2.2) u x.1) (h2 : LB u j x.2.1 x.2.2 ∧ ∀ i, i < j → m_rd u i = m_rd T i) (h3 : m_rm u = m_rm T) : LnP σ τ o j T (bI true) u := by rw [LnP, LnQ, h]; exact ⟨rfl, h1, h2.1, h2.2, h3⟩
theorem rLine_k {σ τ : Sg} {o k : Nat} (hk : wdN (tC σ o) = k) (h11 : k < 11) (hm : tooM τ k = false) : rLine σ τ o = (match rNum σ (slo τ k) (tE σ o) with | .inl f => .inl f | .inr r => .inr (r.1, k, r.2)) := by
  rw [rLine, if_neg (by rw [hk, hm]; rintro (q | q); exact absurd q (by omega); cases q), hk]; rfl
theorem rLine_m {σ τ : Sg} {o k : Nat} (hk : wdN (tC σ o) = k) (hm : tooM τ k = true) : rLine σ τ o = .inl (tB σ o) := by rw [rLine, if_pos (Or.inr (by rw [hk]; exact hm))]
theorem rLine_n {σ τ : Sg} {o : Nat} (hk : wdN (tC σ o) = 11) : rLine σ τ o = .inl (tB σ o) := by rw [rLine, if_pos (Or.inl hk)]
theorem slo_T {τ : Sg} : ∀ {k : Nat}, k < 4 → slo τ k = [inB 1 99, inB 0 1]
  | 0, _ => rfl
  | 1, _ => rfl
  | 2, _ => rfl
  | 3, _ => rfl
  | _ + 4, h => absurd h (by omega)
theorem slo_F {τ : Sg} : ∀ {k : Nat}, 4 ≤ k → k < 7 → slo τ k = [inB 1 999, inB 0 1, inB 1 8, inB 1 9]
  | 4, _, _ => rfl
  | 5, _, _ => rfl
  | 6, _, _ => rfl
  | 0, h, _ => absurd h (by omega)
  | 1, h, _ => absurd h (by omega)
  | 2, h, _ => absurd h (by omega)
  | 3, h, _ => absurd h (by omega)
  | _ + 7, _, h => absurd h (by omega)
theorem too_T {τ : Sg} {k : Nat} (hk : k < 4) : tooM τ k = decide (s_n τ = 8) := by rw [tooM, decide_eq_true hk, decide_eq_false (show ¬ (4 ≤ k ∧ k < 7) by omega), Bool.true_and, Bool.false_and, Bool.or_false]
theorem too_F {τ : Sg} {k : Nat} (hk : 4 ≤ k) (hk7 : k < 7) : tooM τ k = decide (s_m τ = 3) := by rw [tooM, decide_eq_false (show ¬ k < 4 by omega), decide_eq_true (show 4 ≤ k ∧ k < 7 from ⟨hk, hk7⟩), Bool.true_and, Bool.false_and, Bool.false_or]
theorem too_O {τ : Sg} {k : Nat} (hk : 7 ≤ k) : tooM τ k = false := by rw [tooM, decide_eq_false (show ¬ k < 4 by omega), decide_eq_false (show ¬ (4 ≤ k ∧ k < 7) by omega), Bool.false_and, Bool.false_and, Bool.or_false]
theorem upd_o {g : Nat → Int32} {i j : Nat} {v : Int32} (h : j ≠ i) : upd g i v j = g j := if_neg h
theorem upd_s {g : Nat → Int32} {i : Nat} {v : Int32} : upd g i v i = v := if_pos rfl
theorem updN_o {g : Nat → Nat} {i j v : Nat} (h : j ≠ i) : updN g i v j = g j := if_neg h
theorem updN_s {g : Nat → Nat} {i v : Nat} : updN g i v i = v := if_pos rfl
theorem LB_0 {u : Ms} {g : Nat → Int32} {j k : Nat} (h : m_rd u = g) (hg : g j = nI k) : LB u j k [] ∧ ∀ i, i < j → m_rd u i = g i := ⟨⟨by rw [h]; exact hg, fun i hi => absurd hi (Nat.not_lt_zero i)⟩, fun i _ => by rw [h]⟩
theorem LB_1 {u : Ms} {g : Nat → Int32} {j k a : Nat} (h : m_rd u = upd g (j + 1) (nI a)) (hg : g j = nI k) : LB u j k [a] ∧ ∀ i, i < j → m_rd u i = g i := by
  refine ⟨⟨by rw [h, upd_o (by omega)]; exact hg, fun i hi => ?_⟩, fun i hi => by rw [h, upd_o (by omega)]⟩
  rcases (show i = 0 by have : i < 1 := hi; omega) with rfl
  rw [h]; exact upd_s
theorem LB_2 {u : Ms} {g : Nat → Int32} {j k a b : Nat} (h : m_rd u = upd (upd g (j + 1) (nI a)) (j + 2) (nI b)) (hg : g j = nI k) : LB u j k [a, b] ∧ ∀ i, i < j → m_rd u i = g i := by
  refine ⟨⟨by rw [h, upd_o (by omega), upd_o (by omega)]; exact hg, fun i hi => ?_⟩, fun i hi => by rw [h, upd_o (by omega), upd_o (by omega)]⟩
  rcases (show i = 0 ∨ i = 1 by have : i < 2 := hi; omega) with rfl | rfl
  · rw [h, upd_o (by omega)]; exact upd_s
  · rw [h]; exact upd_s
theorem LB_4 {u : Ms} {g : Nat → Int32} {j k a b c d : Nat} (h : m_rd u = upd (upd (upd (upd g (j + 1) (nI a)) (j + 2) (nI b)) (j + 3) (nI c)) (j + 4) (nI d)) (hg : g j = nI k) : LB u j k [a, b, c, d] ∧ ∀ i, i < j → m_rd u i = g i := by
  refine ⟨⟨by rw [h, upd_o (by omega), upd_o (by omega), upd_o (by omega), upd_o (by omega)]; exact hg, fun i hi => ?_⟩, fun i hi => by rw [h, upd_o (by omega), upd_o (by omega), upd_o (by omega), upd_o (by omega)]⟩
  rcases (show i = 0 ∨ i = 1 ∨ i = 2 ∨ i = 3 by have : i < 4 := hi; omega) with rfl | rfl | rfl | rfl
  · rw [h, upd_o (by omega), upd_o (by omega), upd_o (by omega)]; exact upd_s
  · rw [h, upd_o (by omega), upd_o (by omega)]; exact upd_s
  · rw [h, upd_o (by omega)]; exact upd_s
  · rw [h]; exact upd_s
theorem th6_k {th : Nat → Nat} {n k a b t : Nat} : th6 th n k a b (6 * t) = if t = n then k else th (6 * t) := by
  unfold th6
  rw [updN_o (by omega), updN_o (by omega), updN_o (by omega), updN_o (by omega), updN_o (by omega)]
  unfold updN
  by_cases h : t = n
  · rw [if_pos h, if_pos (by omega)]
  · rw [if_neg h, if_neg (by omega)]
theorem RT_T {τ : Sg} {T u : Ms} {k o o' : Nat} {l : List Nat} (hrt : RT τ T o) (hk : k < 4) (h1 : m_po u = nI o') (h2 : m_rt u = nI (s_n τ + 1)) (h3 : m_rf u = nI (s_m τ)) (h4 : m_rk u = upd (m_rk T) (s_n τ) (nI k)) : RT (doL τ k l) u o' := by
  rw [doL, if_pos hk]
  refine ⟨h1, h2, h3, fun t ht => ?_⟩
  show m_rk u t = nI (th6 (s_th τ) (s_n τ) k (lg l 0) (lg l 1) (6 * t))
  have ht : t < s_n τ + 1 := ht
  rw [th6_k, h4]
  by_cases hc : t = s_n τ
  · rw [if_pos hc, hc, upd_s]
  · rw [if_neg hc, upd_o hc, hrt.2.2.2 t (by omega)]
theorem RT_F {τ : Sg} {T u : Ms} {k o o' : Nat} {l : List Nat} (hrt : RT τ T o) (hk : 4 ≤ k) (hk7 : k < 7) (h1 : m_po u = nI o') (h2 : m_rt u = nI (s_n τ)) (h3 : m_rf u = nI (s_m τ + 1)) (h4 : m_rk u = m_rk T) : RT (doL τ k l) u o' := by
  rw [doL, if_neg (by omega), if_pos hk7]
  exact ⟨h1, h2, h3, fun t ht => by rw [h4]; exact hrt.2.2.2 t ht⟩
theorem RT_O {τ : Sg} {T u : Ms} {k o o' : Nat} {l : List Nat} (hrt : RT τ T o) (hk : 8 ≤ k) (h1 : m_po u = nI o') (h2 : m_rt u = nI (s_n τ)) (h3 : m_rf u = nI (s_m τ)) (h4 : m_rk u = m_rk T) : RT (doL τ k l) u o' := by
  have hth : ∀ t i v, 1 ≤ i → i < 6 → ∀ a, updN (s_th τ) (6 * a + i) v (6 * t) = s_th τ (6 * t) := fun t i v h1 h2 a => updN_o (by omega)
  rw [doL, if_neg (by omega), if_neg (by omega), if_neg (by omega)]
  split
  · exact ⟨h1, h2, h3, fun t ht => by rw [h4]; exact (hrt.2.2.2 t ht).trans (congrArg nI (hth t 3 _ (by decide) (by decide) _).symm)⟩
  · split
    · exact ⟨h1, h2, h3, fun t ht => by rw [h4]; exact (hrt.2.2.2 t ht).trans (congrArg nI (hth t 4 _ (by decide) (by decide) _).symm)⟩
    · exact ⟨h1, h2, h3, fun t ht => by rw [h4]; exact (hrt.2.2.2 t ht).trans (congrArg nI (hth t 5 _ (by decide) (by decide) _).symm)⟩
theorem m_eta2 (T : Ms) : mu_rf (mu_rt T (m_rt T)) (m_rf T) = T := rfl
set_option maxHeartbeats 4000000 in
set_option maxRecDepth 100000 in
theorem k_X11_isThingLine (l : Launch) (D : va_G) (cy : Nat → ClassId) (ad : Nat → Nat) (σ : Sg) (T : Ms) (τ : Sg) (o j k : Nat) (hw : wfS σ) (hn8 : s_n τ ≤ 8) (hm3 : s_m τ ≤ 3) (ho : o ≤ s_ln σ) (hta : m_ta T = nI (tB σ o)) (hrt : RT τ T (tE σ o)) (hrd : m_rd T j = nI k) (hj : j + 4 < 60) (hk : wdN (tC σ o) = k) (hk4 : k < 4) : MW l yX11_isThingLine qX11_isThingLine 4 [.ref (ad 0), .int (nI (j))] D cy (mw cy ad σ T) (LnP σ τ o j T) (fun u : Ms => mw cy ad σ u) := by
  intro sz
  refine Met.ofW (cc := cX11_isThingLine) (maxL := 2) (ret := (some .boolean)) (by decide) rfl ?_
  intro p e s m args below meth c s₁ B hml hv
  obtain ⟨rfl, rfl, hP, hK, hN, hD0⟩ := hv
  have hx := B.exec
  have hb := B.bytes
  have hr := B.returns
  have hlocks := B.notSynchronized
  have hts : ∀ cq ∈ tg, cq.before ([.ref (ad 0), .int (nI (j))] : List Value).toArray s = true := fun cq h => atoms_spec (ws := qX11_isThingLine) B.pre cq (List.mem_cons_of_mem _ h)
  have hown : s.vm.findClass RX11 = some m.cls := findClass_of_methodNamed B.named
  have hD := hD0.self (sz := s.heap.size)
  generalize hAe : va_A (mw cy ad σ T) s.heap.size = A at hD ⊢
  have hA : ∀ q : Nat, s.heap.size ≤ q → A q := fun q h => by rw [← hAe]; exact Or.inr h
  have hS : va_S A s.heap s.heap [] := va_S.rf
  have hl := lv_entry ([.ref (ad 0), .int (nI (j))]) (n := 2) (Nat.le_of_ble_eq_true rfl)
  rw [lg_entry_eq]
  generalize (lg_sl ([.ref (ad 0), .int (nI (j))]) ++ List.replicate (2 - (lg_sl ([.ref (ad 0), .int (nI (j))])).length) Slot.unset).toArray = ls at hl ⊢
  have hl : lv_has ls 2 [(0, .ref (ad 0)), (1, .int (nI (j)))] := hl
  have hp1 := tE_le ho
  have hp2 := tE_le hp1
  have hp3 := tE_le hp2
  have hp4 := tE_le hp3
  have h0 : T = mu_rf (mu_rt T (nI (s_n τ))) (nI (s_m τ)) := by rw [← hrt.2.1, ← hrt.2.2.1]; exact (m_eta2 T).symm
  have hP : va_P D vwCl (mw cy ad σ (mu_rf (mu_rt T (nI (s_n τ))) (nI (s_m τ)))) s.heap := by rw [← h0]; exact hP
  have hD : va_D A (mw cy ad σ (mu_rf (mu_rt T (nI (s_n τ))) (nI (s_m τ)))) := by rw [← h0]; exact hD
  refine lv_aload_n hx hb dX11_isThingLine_0 rfl (lv_at hl 0 rfl) ?_
  refine va_get (D := D) (ci := 10) (v := .int (nI (s_n τ))) (C := RX11) (T := TX11) (N := 31) hx hb hts ni11 hown hK hP 0 (mw_c0 cy ad σ (mu_rf (mu_rt T (nI (s_n τ))) (nI (s_m τ)))) rfl 13 (by decide) (hts _ flX11_101) (fun _ h => h) rfl dX11_isThingLine_1 ?_
  refine lv_bipush (v := nI 8) hx hb dX11_isThingLine_4 (by decide) ?_
  refine ln_icmp_ne (tgt := 14) hx hb dX11_isThingLine_6 (by decide) (by omega) (by omega) (fun c6 => ?_) (fun c6 => ?_)
  · refine lv_aload_n hx hb dX11_isThingLine_14 rfl (lv_at hl 0 rfl) ?_
    refine va_get (D := D) (ci := 10) (v := .ref (ad 4)) (C := RX11) (T := TX11) (N := 31) hx hb hts ni11 hown hK hP 0 (mw_c0 cy ad σ (mu_rf (mu_rt T (nI (s_n τ))) (nI (s_m τ)))) rfl 15 (by decide) (hts _ flX11_19) (fun _ h => h) rfl dX11_isThingLine_15 ?_
    refine lv_aload_n hx hb dX11_isThingLine_18 rfl (lv_at hl 0 rfl) ?_
    refine va_get (D := D) (ci := 10) (v := .int (nI (s_n τ))) (C := RX11) (T := TX11) (N := 31) hx hb hts ni11 hown hK hP 0 (mw_c0 cy ad σ (mu_rf (mu_rt T (nI (s_n τ))) (nI (s_m τ)))) rfl 13 (by decide) (hts _ flX11_101) (fun _ h => h) rfl dX11_isThingLine_19 ?_
    refine lv_aload_n hx hb dX11_isThingLine_22 rfl (lv_at hl 0 rfl) ?_
    refine va_get (D := D) (ci := 10) (v := .ref (ad 5)) (C := RX11) (T := TX11) (N := 31) hx hb hts ni11 hown hK hP 0 (mw_c0 cy ad σ (mu_rf (mu_rt T (nI (s_n τ))) (nI (s_m τ)))) rfl 16 (by decide) (hts _ flX11_22) (fun _ h => h) rfl dX11_isThingLine_23 ?_
    refine lv_iload_n hx hb dX11_isThingLine_26 rfl (lv_at hl 1 rfl) ?_
    refine ln_iald (v := (m_rd T j)) hx hb hK hP 5 (mw_c5 cy ad σ (mu_rf (mu_rt T (nI (s_n τ))) (nI (s_m τ)))) (by omega) (by decide) rfl dX11_isThingLine_27 ?_
    refine ln_eq (show (m_rd T j) = (nI (k)) from hrd) ?_
    refine ln_iast hx hb hK hP hD hS 4 (mw_c4 cy ad σ (mu_rf (mu_rt T (nI (s_n τ))) (nI (s_m τ)))) (by omega) (by decide) (mp_4 cy ad σ (mu_rf (mu_rt T (nI (s_n τ))) (nI (s_m τ))) (s_n τ) (nI (k))) dX11_isThingLine_28 (fun H locs hP hD hS => ?_)
    refine lv_aload_n hx hb dX11_isThingLine_29 rfl (lv_at hl 0 rfl) ?_
    refine lv_dup hx hb dX11_isThingLine_30 rfl ?_
    refine va_get (D := D) (ci := 10) (v := .int (nI (s_n τ))) (C := RX11) (T := TX11) (N := 31) hx hb hts ni11 hown hK hP 0 (mw_c0 cy ad σ (mu_rk (mu_rf (mu_rt T (nI (s_n τ))) (nI (s_m τ))) (upd (m_rk T) (s_n τ) (nI (k))))) rfl 13 (by decide) (hts _ flX11_101) (fun _ h => h) rfl dX11_isThingLine_31 ?_
    refine lv_iconst (v := nI 1) hx hb dX11_isThingLine_34 (by decide) ?_
    refine ln_iadd hx hb dX11_isThingLine_35 ?_
    refine ln_put (ci := 10) (C := RX11) (T := TX11) (N := 31) (ty := .int) (v := .int (nI ((s_n τ) + 1))) hx hb hts ni11 tyX11 tyX11_ok nmX11 hown hK hP hD hS 0 (mw_c0 cy ad σ (mu_rk (mu_rf (mu_rt T (nI (s_n τ))) (nI (s_m τ))) (upd (m_rk T) (s_n τ) (nI (k))))) rfl 13 (by decide) (hts _ flX11_101) (fun _ h => h) rfl (by decide +kernel) rfl rfl (Nat.le_of_ble_eq_true rfl) ((mp_0_13 cy ad σ (mu_rk (mu_rf (mu_rt T (nI (s_n τ))) (nI (s_m τ))) (upd (m_rk T) (s_n τ) (nI (k)))) (nI ((s_n τ) + 1))).trans (congrArg (fun z => mw cy ad σ z) (by rw [mx_rt_rk, mx_rt_rf, mc_rt]))) dX11_isThingLine_36 (fun H locs hP hD hS => ?_)
    refine lv_aload_n hx hb dX11_isThingLine_39 rfl (lv_at hl 0 rfl) ?_
    refine lv_iload_n hx hb dX11_isThingLine_40 rfl (lv_at hl 1 rfl) ?_
    refine lv_iconst (v := nI 1) hx hb dX11_isThingLine_41 (by decide) ?_
    refine ln_iadd hx hb dX11_isThingLine_42 ?_
    refine lv_iconst (v := nI 1) hx hb dX11_isThingLine_43 (by decide) ?_
    refine lv_bipush (v := nI 99) hx hb dX11_isThingLine_44 (by decide) ?_
    refine cr_w (n := 3) (As := [.int (nI (j + 1)), .int (nI (1)), .int (nI (99))]) (rest := []) ⟨hx, hb, hml, hown, hts⟩ (k_X11_isNumber l D cy ad σ (mu_rk (mu_rf (mu_rt T (nI ((s_n τ) + 1))) (nI (s_m τ))) (upd (m_rk T) (s_n τ) (nI (k)))) (tE σ o) (j + 1) (nI (1)) (nI (99)) hw hrt.1 hp1 (by omega)) gvX11_104 (by decide +kernel) ⟨Nat.le_of_ble_eq_true rfl, Nat.le_of_ble_eq_true rfl⟩ hK hN hP hD hS hA 0 (mw_c0 cy ad σ (mu_rk (mu_rf (mu_rt T (nI ((s_n τ) + 1))) (nI (s_m τ))) (upd (m_rk T) (s_n τ) (nI (k))))) rfl rfl hl.1 rfl (Nat.le_of_ble_eq_true rfl) dX11_isThingLine_46 ⟨Nat.zero_le _, Nat.zero_le _⟩ (fun _ => (mw_ad _ _ _ _).trans (mw_ad _ _ _ _).symm) (fun r2 u1 H locs hpu1 hP hD hS => ?_)
    obtain ⟨rfl, eyes1, eno1⟩ := hpu1
    refine lb_if_eq (tgt := 68) hx hb dX11_isThingLine_49 (by decide) (fun c49 => ?_) (fun c49 => ?_)
    · refine lv_iconst (v := nI 0) hx hb dX11_isThingLine_68 (by decide) ?_
      refine ln_eq bI_f.symm ?_
      exact rw_z hx hb hr hlocks hS u1 (LnP_f (by rw [rLine_k hk (by omega) (by rw [too_T hk4]; exact decide_eq_false c6), slo_T hk4, rNum_f (by rw [← gI_in (by decide) (by decide)]; exact c49)]) (eno1 c49)) hP dX11_isThingLine_69
    · refine lv_aload_n hx hb dX11_isThingLine_52 rfl (lv_at hl 0 rfl) ?_
      refine lv_iload_n hx hb dX11_isThingLine_53 rfl (lv_at hl 1 rfl) ?_
      refine lv_iconst (v := nI 2) hx hb dX11_isThingLine_54 (by decide) ?_
      refine ln_iadd hx hb dX11_isThingLine_55 ?_
      refine lv_iconst (v := nI 0) hx hb dX11_isThingLine_56 (by decide) ?_
      refine lv_iconst (v := nI 1) hx hb dX11_isThingLine_57 (by decide) ?_
      refine cr_w (n := 3) (As := [.int (nI (j + 2)), .int (nI (0)), .int (nI (1))]) (rest := []) ⟨hx, hb, hml, hown, hts⟩ (k_X11_isNumber l D cy ad σ u1 (tE σ (tE σ o)) (j + 2) (nI (0)) (nI (1)) hw (eyes1 c49).1 hp2 (by omega)) gvX11_104 (by decide +kernel) ⟨Nat.le_of_ble_eq_true rfl, Nat.le_of_ble_eq_true rfl⟩ hK hN hP hD hS hA 0 (mw_c0 cy ad σ u1) rfl rfl hl.1 rfl (Nat.le_of_ble_eq_true rfl) dX11_isThingLine_58 ⟨Nat.zero_le _, Nat.zero_le _⟩ (fun _ => (mw_ad _ _ _ _).trans (mw_ad _ _ _ _).symm) (fun r4 u3 H locs hpu3 hP hD hS => ?_)
      obtain ⟨rfl, eyes3, eno3⟩ := hpu3
      refine lb_if_eq (tgt := 68) hx hb dX11_isThingLine_61 (by decide) (fun c61 => ?_) (fun c61 => ?_)
      · refine lv_iconst (v := nI 0) hx hb dX11_isThingLine_68 (by decide) ?_
        refine ln_eq bI_f.symm ?_
        exact rw_z hx hb hr hlocks hS u3 (LnP_f (by rw [rLine_k hk (by omega) (by rw [too_T hk4]; exact decide_eq_false c6), slo_T hk4, rNum_t (by rw [← gI_in (by decide) (by decide)]; exact c49), rNum_f (by rw [← gI_in (by decide) (by decide)]; exact c61)]) (eno3 c61)) hP dX11_isThingLine_69
      · refine lv_iconst (v := nI 1) hx hb dX11_isThingLine_64 (by decide) ?_
        refine lv_goto (tgt := 69) hx hb dX11_isThingLine_65 (by decide) ?_
        refine ln_eq bI_t.symm ?_
        exact rw_z hx hb hr hlocks hS u3 (LnP_t (x := (tE σ (tE σ (tE σ o)), k, [tN σ (tE σ o), tN σ (tE σ (tE σ o))])) (by rw [rLine_k hk (by omega) (by rw [too_T hk4]; exact decide_eq_false c6), slo_T hk4, rNum_t (by rw [← gI_in (by decide) (by decide)]; exact c49), rNum_t (by rw [← gI_in (by decide) (by decide)]; exact c61)]; rfl) (RT_T hrt hk4 (eyes3 c61).1 ((eyes3 c61).2.2.2.1.trans (eyes1 c49).2.2.2.1) ((eyes3 c61).2.2.2.2.1.trans (eyes1 c49).2.2.2.2.1) ((eyes3 c61).2.2.2.2.2.1.trans (eyes1 c49).2.2.2.2.2.1)) (LB_2 (by rw [(eyes3 c61).2.2.2.2.2.2, (eyes1 c49).2.2.2.2.2.2]; rfl) hrd) ((eyes3 c61).2.2.1.trans (eyes1 c49).2.2.1)) hP dX11_isThingLine_69
  · refine lv_aload_n hx hb dX11_isThingLine_9 rfl (lv_at hl 0 rfl) ?_
    refine cr_w (n := 0) (As := []) (rest := []) ⟨hx, hb, hml, hown, hts⟩ (k_X11_fails l D cy ad σ (mu_rf (mu_rt T (nI (s_n τ))) (nI (s_m τ))) ) gvX11_97 (by decide +kernel) ⟨Nat.le_of_ble_eq_true rfl, Nat.le_of_ble_eq_true rfl⟩ hK hN hP hD hS hA 0 (mw_c0 cy ad σ (mu_rf (mu_rt T (nI (s_n τ))) (nI (s_m τ)))) rfl rfl hl.1 rfl (Nat.le_of_ble_eq_true rfl) dX11_isThingLine_10 ⟨Nat.zero_le _, Nat.zero_le _⟩ (fun _ => (mw_ad _ _ _ _).trans (mw_ad _ _ _ _).symm) (fun r6 u5 H locs hpu5 hP hD hS => ?_)
    obtain ⟨rfl, efa5⟩ := hpu5
    exact rw_z hx hb hr hlocks hS u5 (LnP_f (rLine_m hk (by rw [too_T hk4]; exact decide_eq_true c6)) (efa5.trans hta)) hP dX11_isThingLine_13
set_option maxHeartbeats 4000000 in
set_option maxRecDepth 100000 in
theorem k_X11_isFerryLine (l : Launch) (D : va_G) (cy : Nat → ClassId) (ad : Nat → Nat) (σ : Sg) (T : Ms) (τ : Sg) (o j k : Nat) (hw : wfS σ) (hn8 : s_n τ ≤ 8) (hm3 : s_m τ ≤ 3) (ho : o ≤ s_ln σ) (hta : m_ta T = nI (tB σ o)) (hrt : RT τ T (tE σ o)) (hrd : m_rd T j = nI k) (hj : j + 4 < 60) (hk : wdN (tC σ o) = k) (hk4 : 4 ≤ k) (hk7 : k < 7) : MW l yX11_isFerryLine qX11_isFerryLine 4 [.ref (ad 0), .int (nI (j))] D cy (mw cy ad σ T) (LnP σ τ o j T) (fun u : Ms => mw cy ad σ u) := by
  intro sz
  refine Met.ofW (cc := cX11_isFerryLine) (maxL := 2) (ret := (some .boolean)) (by decide) rfl ?_
  intro p e s m args below meth c s₁ B hml hv
  obtain ⟨rfl, rfl, hP, hK, hN, hD0⟩ := hv
  have hx := B.exec
  have hb := B.bytes
  have hr := B.returns
  have hlocks := B.notSynchronized
  have hts : ∀ cq ∈ tg, cq.before ([.ref (ad 0), .int (nI (j))] : List Value).toArray s = true := fun cq h => atoms_spec (ws := qX11_isFerryLine) B.pre cq (List.mem_cons_of_mem _ h)
  have hown : s.vm.findClass RX11 = some m.cls := findClass_of_methodNamed B.named
  have hD := hD0.self (sz := s.heap.size)
  generalize hAe : va_A (mw cy ad σ T) s.heap.size = A at hD ⊢
  have hA : ∀ q : Nat, s.heap.size ≤ q → A q := fun q h => by rw [← hAe]; exact Or.inr h
  have hS : va_S A s.heap s.heap [] := va_S.rf
  have hl := lv_entry ([.ref (ad 0), .int (nI (j))]) (n := 2) (Nat.le_of_ble_eq_true rfl)
  rw [lg_entry_eq]
  generalize (lg_sl ([.ref (ad 0), .int (nI (j))]) ++ List.replicate (2 - (lg_sl ([.ref (ad 0), .int (nI (j))])).length) Slot.unset).toArray = ls at hl ⊢
  have hl : lv_has ls 2 [(0, .ref (ad 0)), (1, .int (nI (j)))] := hl
  have hp1 := tE_le ho
  have hp2 := tE_le hp1
  have hp3 := tE_le hp2
  have hp4 := tE_le hp3
  have hp5 := tE_le hp4
  have h0 : T = mu_rf (mu_rt T (nI (s_n τ))) (nI (s_m τ)) := by rw [← hrt.2.1, ← hrt.2.2.1]; exact (m_eta2 T).symm
  have hP : va_P D vwCl (mw cy ad σ (mu_rf (mu_rt T (nI (s_n τ))) (nI (s_m τ)))) s.heap := by rw [← h0]; exact hP
  have hD : va_D A (mw cy ad σ (mu_rf (mu_rt T (nI (s_n τ))) (nI (s_m τ)))) := by rw [← h0]; exact hD
  refine lv_aload_n hx hb dX11_isFerryLine_0 rfl (lv_at hl 0 rfl) ?_
  refine va_get (D := D) (ci := 10) (v := .int (nI (s_m τ))) (C := RX11) (T := TX11) (N := 31) hx hb hts ni11 hown hK hP 0 (mw_c0 cy ad σ (mu_rf (mu_rt T (nI (s_n τ))) (nI (s_m τ)))) rfl 14 (by decide) (hts _ flX11_107) (fun _ h => h) rfl dX11_isFerryLine_1 ?_
  refine lv_iconst (v := nI 3) hx hb dX11_isFerryLine_4 (by decide) ?_
  refine ln_icmp_ne (tgt := 13) hx hb dX11_isFerryLine_5 (by decide) (by omega) (by omega) (fun c5 => ?_) (fun c5 => ?_)
  · refine lv_aload_n hx hb dX11_isFerryLine_13 rfl (lv_at hl 0 rfl) ?_
    refine lv_dup hx hb dX11_isFerryLine_14 rfl ?_
    refine va_get (D := D) (ci := 10) (v := .int (nI (s_m τ))) (C := RX11) (T := TX11) (N := 31) hx hb hts ni11 hown hK hP 0 (mw_c0 cy ad σ (mu_rf (mu_rt T (nI (s_n τ))) (nI (s_m τ)))) rfl 14 (by decide) (hts _ flX11_107) (fun _ h => h) rfl dX11_isFerryLine_15 ?_
    refine lv_iconst (v := nI 1) hx hb dX11_isFerryLine_18 (by decide) ?_
    refine ln_iadd hx hb dX11_isFerryLine_19 ?_
    refine ln_put (ci := 10) (C := RX11) (T := TX11) (N := 31) (ty := .int) (v := .int (nI ((s_m τ) + 1))) hx hb hts ni11 tyX11 tyX11_ok nmX11 hown hK hP hD hS 0 (mw_c0 cy ad σ (mu_rf (mu_rt T (nI (s_n τ))) (nI (s_m τ)))) rfl 14 (by decide) (hts _ flX11_107) (fun _ h => h) rfl (by decide +kernel) rfl rfl (Nat.le_of_ble_eq_true rfl) ((mp_0_14 cy ad σ (mu_rf (mu_rt T (nI (s_n τ))) (nI (s_m τ))) (nI ((s_m τ) + 1))).trans (congrArg (fun z => mw cy ad σ z) (by rw [mc_rf]))) dX11_isFerryLine_20 (fun H locs hP hD hS => ?_)
    refine lv_aload_n hx hb dX11_isFerryLine_23 rfl (lv_at hl 0 rfl) ?_
    refine lv_iload_n hx hb dX11_isFerryLine_24 rfl (lv_at hl 1 rfl) ?_
    refine lv_iconst (v := nI 1) hx hb dX11_isFerryLine_25 (by decide) ?_
    refine ln_iadd hx hb dX11_isFerryLine_26 ?_
    refine lv_iconst (v := nI 1) hx hb dX11_isFerryLine_27 (by decide) ?_
    refine lv_sipush (v := nI 999) hx hb dX11_isFerryLine_28 (by decide) ?_
    refine cr_w (n := 3) (As := [.int (nI (j + 1)), .int (nI (1)), .int (nI (999))]) (rest := []) ⟨hx, hb, hml, hown, hts⟩ (k_X11_isNumber l D cy ad σ (mu_rf (mu_rt T (nI (s_n τ))) (nI ((s_m τ) + 1))) (tE σ o) (j + 1) (nI (1)) (nI (999)) hw hrt.1 hp1 (by omega)) gvX11_104 (by decide +kernel) ⟨Nat.le_of_ble_eq_true rfl, Nat.le_of_ble_eq_true rfl⟩ hK hN hP hD hS hA 0 (mw_c0 cy ad σ (mu_rf (mu_rt T (nI (s_n τ))) (nI ((s_m τ) + 1)))) rfl rfl hl.1 rfl (Nat.le_of_ble_eq_true rfl) dX11_isFerryLine_31 ⟨Nat.zero_le _, Nat.zero_le _⟩ (fun _ => (mw_ad _ _ _ _).trans (mw_ad _ _ _ _).symm) (fun r2 u1 H locs hpu1 hP hD hS => ?_)
    obtain ⟨rfl, eyes1, eno1⟩ := hpu1
    refine lb_if_eq (tgt := 79) hx hb dX11_isFerryLine_34 (by decide) (fun c34 => ?_) (fun c34 => ?_)
    · refine lv_iconst (v := nI 0) hx hb dX11_isFerryLine_79 (by decide) ?_
      refine ln_eq bI_f.symm ?_
      exact rw_z hx hb hr hlocks hS u1 (LnP_f (by rw [rLine_k hk (by omega) (by rw [too_F hk4 hk7]; exact decide_eq_false c5), slo_F hk4 hk7, rNum_f (by rw [← gI_in (by decide) (by decide)]; exact c34)]) (eno1 c34)) hP dX11_isFerryLine_80
    · refine lv_aload_n hx hb dX11_isFerryLine_37 rfl (lv_at hl 0 rfl) ?_
      refine lv_iload_n hx hb dX11_isFerryLine_38 rfl (lv_at hl 1 rfl) ?_
      refine lv_iconst (v := nI 2) hx hb dX11_isFerryLine_39 (by decide) ?_
      refine ln_iadd hx hb dX11_isFerryLine_40 ?_
      refine lv_iconst (v := nI 0) hx hb dX11_isFerryLine_41 (by decide) ?_
      refine lv_iconst (v := nI 1) hx hb dX11_isFerryLine_42 (by decide) ?_
      refine cr_w (n := 3) (As := [.int (nI (j + 2)), .int (nI (0)), .int (nI (1))]) (rest := []) ⟨hx, hb, hml, hown, hts⟩ (k_X11_isNumber l D cy ad σ u1 (tE σ (tE σ o)) (j + 2) (nI (0)) (nI (1)) hw (eyes1 c34).1 hp2 (by omega)) gvX11_104 (by decide +kernel) ⟨Nat.le_of_ble_eq_true rfl, Nat.le_of_ble_eq_true rfl⟩ hK hN hP hD hS hA 0 (mw_c0 cy ad σ u1) rfl rfl hl.1 rfl (Nat.le_of_ble_eq_true rfl) dX11_isFerryLine_43 ⟨Nat.zero_le _, Nat.zero_le _⟩ (fun _ => (mw_ad _ _ _ _).trans (mw_ad _ _ _ _).symm) (fun r4 u3 H locs hpu3 hP hD hS => ?_)
      obtain ⟨rfl, eyes3, eno3⟩ := hpu3
      refine lb_if_eq (tgt := 79) hx hb dX11_isFerryLine_46 (by decide) (fun c46 => ?_) (fun c46 => ?_)
      · refine lv_iconst (v := nI 0) hx hb dX11_isFerryLine_79 (by decide) ?_
        refine ln_eq bI_f.symm ?_
        exact rw_z hx hb hr hlocks hS u3 (LnP_f (by rw [rLine_k hk (by omega) (by rw [too_F hk4 hk7]; exact decide_eq_false c5), slo_F hk4 hk7, rNum_t (by rw [← gI_in (by decide) (by decide)]; exact c34), rNum_f (by rw [← gI_in (by decide) (by decide)]; exact c46)]) (eno3 c46)) hP dX11_isFerryLine_80
      · refine lv_aload_n hx hb dX11_isFerryLine_49 rfl (lv_at hl 0 rfl) ?_
        refine lv_iload_n hx hb dX11_isFerryLine_50 rfl (lv_at hl 1 rfl) ?_
        refine lv_iconst (v := nI 3) hx hb dX11_isFerryLine_51 (by decide) ?_
        refine ln_iadd hx hb dX11_isFerryLine_52 ?_
        refine lv_iconst (v := nI 1) hx hb dX11_isFerryLine_53 (by decide) ?_
        refine lv_bipush (v := nI 8) hx hb dX11_isFerryLine_54 (by decide) ?_
        refine cr_w (n := 3) (As := [.int (nI (j + 3)), .int (nI (1)), .int (nI (8))]) (rest := []) ⟨hx, hb, hml, hown, hts⟩ (k_X11_isNumber l D cy ad σ u3 (tE σ (tE σ (tE σ o))) (j + 3) (nI (1)) (nI (8)) hw (eyes3 c46).1 hp3 (by omega)) gvX11_104 (by decide +kernel) ⟨Nat.le_of_ble_eq_true rfl, Nat.le_of_ble_eq_true rfl⟩ hK hN hP hD hS hA 0 (mw_c0 cy ad σ u3) rfl rfl hl.1 rfl (Nat.le_of_ble_eq_true rfl) dX11_isFerryLine_56 ⟨Nat.zero_le _, Nat.zero_le _⟩ (fun _ => (mw_ad _ _ _ _).trans (mw_ad _ _ _ _).symm) (fun r6 u5 H locs hpu5 hP hD hS => ?_)
        obtain ⟨rfl, eyes5, eno5⟩ := hpu5
        refine lb_if_eq (tgt := 79) hx hb dX11_isFerryLine_59 (by decide) (fun c59 => ?_) (fun c59 => ?_)
        · refine lv_iconst (v := nI 0) hx hb dX11_isFerryLine_79 (by decide) ?_
          refine ln_eq bI_f.symm ?_
          exact rw_z hx hb hr hlocks hS u5 (LnP_f (by rw [rLine_k hk (by omega) (by rw [too_F hk4 hk7]; exact decide_eq_false c5), slo_F hk4 hk7, rNum_t (by rw [← gI_in (by decide) (by decide)]; exact c34), rNum_t (by rw [← gI_in (by decide) (by decide)]; exact c46), rNum_f (by rw [← gI_in (by decide) (by decide)]; exact c59)]) (eno5 c59)) hP dX11_isFerryLine_80
        · refine lv_aload_n hx hb dX11_isFerryLine_62 rfl (lv_at hl 0 rfl) ?_
          refine lv_iload_n hx hb dX11_isFerryLine_63 rfl (lv_at hl 1 rfl) ?_
          refine lv_iconst (v := nI 4) hx hb dX11_isFerryLine_64 (by decide) ?_
          refine ln_iadd hx hb dX11_isFerryLine_65 ?_
          refine lv_iconst (v := nI 1) hx hb dX11_isFerryLine_66 (by decide) ?_
          refine lv_bipush (v := nI 9) hx hb dX11_isFerryLine_67 (by decide) ?_
          refine cr_w (n := 3) (As := [.int (nI (j + 4)), .int (nI (1)), .int (nI (9))]) (rest := []) ⟨hx, hb, hml, hown, hts⟩ (k_X11_isNumber l D cy ad σ u5 (tE σ (tE σ (tE σ (tE σ o)))) (j + 4) (nI (1)) (nI (9)) hw (eyes5 c59).1 hp4 (by omega)) gvX11_104 (by decide +kernel) ⟨Nat.le_of_ble_eq_true rfl, Nat.le_of_ble_eq_true rfl⟩ hK hN hP hD hS hA 0 (mw_c0 cy ad σ u5) rfl rfl hl.1 rfl (Nat.le_of_ble_eq_true rfl) dX11_isFerryLine_69 ⟨Nat.zero_le _, Nat.zero_le _⟩ (fun _ => (mw_ad _ _ _ _).trans (mw_ad _ _ _ _).symm) (fun r8 u7 H locs hpu7 hP hD hS => ?_)
          obtain ⟨rfl, eyes7, eno7⟩ := hpu7
          refine lb_if_eq (tgt := 79) hx hb dX11_isFerryLine_72 (by decide) (fun c72 => ?_) (fun c72 => ?_)
          · refine lv_iconst (v := nI 0) hx hb dX11_isFerryLine_79 (by decide) ?_
            refine ln_eq bI_f.symm ?_
            exact rw_z hx hb hr hlocks hS u7 (LnP_f (by rw [rLine_k hk (by omega) (by rw [too_F hk4 hk7]; exact decide_eq_false c5), slo_F hk4 hk7, rNum_t (by rw [← gI_in (by decide) (by decide)]; exact c34), rNum_t (by rw [← gI_in (by decide) (by decide)]; exact c46), rNum_t (by rw [← gI_in (by decide) (by decide)]; exact c59), rNum_f (by rw [← gI_in (by decide) (by decide)]; exact c72)]) (eno7 c72)) hP dX11_isFerryLine_80
          · refine lv_iconst (v := nI 1) hx hb dX11_isFerryLine_75 (by decide) ?_
            refine lv_goto (tgt := 80) hx hb dX11_isFerryLine_76 (by decide) ?_
            refine ln_eq bI_t.symm ?_
            exact rw_z hx hb hr hlocks hS u7 (LnP_t (x := (tE σ (tE σ (tE σ (tE σ (tE σ o)))), k, [tN σ (tE σ o), tN σ (tE σ (tE σ o)), tN σ (tE σ (tE σ (tE σ o))), tN σ (tE σ (tE σ (tE σ (tE σ o))))])) (by rw [rLine_k hk (by omega) (by rw [too_F hk4 hk7]; exact decide_eq_false c5), slo_F hk4 hk7, rNum_t (by rw [← gI_in (by decide) (by decide)]; exact c34), rNum_t (by rw [← gI_in (by decide) (by decide)]; exact c46), rNum_t (by rw [← gI_in (by decide) (by decide)]; exact c59), rNum_t (by rw [← gI_in (by decide) (by decide)]; exact c72)]; rfl) (RT_F hrt hk4 hk7 (eyes7 c72).1 ((eyes7 c72).2.2.2.1.trans ((eyes5 c59).2.2.2.1.trans ((eyes3 c46).2.2.2.1.trans (eyes1 c34).2.2.2.1))) ((eyes7 c72).2.2.2.2.1.trans ((eyes5 c59).2.2.2.2.1.trans ((eyes3 c46).2.2.2.2.1.trans (eyes1 c34).2.2.2.2.1))) ((eyes7 c72).2.2.2.2.2.1.trans ((eyes5 c59).2.2.2.2.2.1.trans ((eyes3 c46).2.2.2.2.2.1.trans (eyes1 c34).2.2.2.2.2.1)))) (LB_4 (by rw [(eyes7 c72).2.2.2.2.2.2, (eyes5 c59).2.2.2.2.2.2, (eyes3 c46).2.2.2.2.2.2, (eyes1 c34).2.2.2.2.2.2]; rfl) hrd) ((eyes7 c72).2.2.1.trans ((eyes5 c59).2.2.1.trans ((eyes3 c46).2.2.1.trans (eyes1 c34).2.2.1)))) hP dX11_isFerryLine_80
  · refine lv_aload_n hx hb dX11_isFerryLine_8 rfl (lv_at hl 0 rfl) ?_
    refine cr_w (n := 0) (As := []) (rest := []) ⟨hx, hb, hml, hown, hts⟩ (k_X11_fails l D cy ad σ (mu_rf (mu_rt T (nI (s_n τ))) (nI (s_m τ))) ) gvX11_97 (by decide +kernel) ⟨Nat.le_of_ble_eq_true rfl, Nat.le_of_ble_eq_true rfl⟩ hK hN hP hD hS hA 0 (mw_c0 cy ad σ (mu_rf (mu_rt T (nI (s_n τ))) (nI (s_m τ)))) rfl rfl hl.1 rfl (Nat.le_of_ble_eq_true rfl) dX11_isFerryLine_9 ⟨Nat.zero_le _, Nat.zero_le _⟩ (fun _ => (mw_ad _ _ _ _).trans (mw_ad _ _ _ _).symm) (fun r10 u9 H locs hpu9 hP hD hS => ?_)
    obtain ⟨rfl, efa9⟩ := hpu9
    exact rw_z hx hb hr hlocks hS u9 (LnP_f (rLine_m hk (by rw [too_F hk4 hk7]; exact decide_eq_true c5)) (efa9.trans hta)) hP dX11_isFerryLine_12
set_option maxHeartbeats 4000000 in
set_option maxRecDepth 100000 in
theorem k_X11_isHat (l : Launch) (D : va_G) (cy : Nat → ClassId) (ad : Nat → Nat) (σ : Sg) (T : Ms) (τ : Sg) (o j k : Nat) (hw : wfS σ) (hn8 : s_n τ ≤ 8) (hm3 : s_m τ ≤ 3) (ho : o ≤ s_ln σ) (hta : m_ta T = nI (tB σ o)) (hrt : RT τ T (tE σ o)) (hrd : m_rd T j = nI k) (hj : j + 4 < 60) (hk : wdN (tC σ o) = k) (hk8 : k = 8) (hwt : wfT (s_th τ)) : MW l yX11_isHat qX11_isHat 4 [.ref (ad 0), .int (nI (j))] D cy (mw cy ad σ T) (LnP σ τ o j T) (fun u : Ms => mw cy ad σ u) := by
  intro sz
  refine Met.ofW (cc := cX11_isHat) (maxL := 2) (ret := (some .boolean)) (by decide) rfl ?_
  intro p e s m args below meth c s₁ B hml hv
  obtain ⟨rfl, rfl, hP, hK, hN, hD0⟩ := hv
  have hx := B.exec
  have hb := B.bytes
  have hr := B.returns
  have hlocks := B.notSynchronized
  have hts : ∀ cq ∈ tg, cq.before ([.ref (ad 0), .int (nI (j))] : List Value).toArray s = true := fun cq h => atoms_spec (ws := qX11_isHat) B.pre cq (List.mem_cons_of_mem _ h)
  have hown : s.vm.findClass RX11 = some m.cls := findClass_of_methodNamed B.named
  have hD := hD0.self (sz := s.heap.size)
  generalize hAe : va_A (mw cy ad σ T) s.heap.size = A at hD ⊢
  have hA : ∀ q : Nat, s.heap.size ≤ q → A q := fun q h => by rw [← hAe]; exact Or.inr h
  have hS : va_S A s.heap s.heap [] := va_S.rf
  have hl := lv_entry ([.ref (ad 0), .int (nI (j))]) (n := 2) (Nat.le_of_ble_eq_true rfl)
  rw [lg_entry_eq]
  generalize (lg_sl ([.ref (ad 0), .int (nI (j))]) ++ List.replicate (2 - (lg_sl ([.ref (ad 0), .int (nI (j))])).length) Slot.unset).toArray = ls at hl ⊢
  have hl : lv_has ls 2 [(0, .ref (ad 0)), (1, .int (nI (j)))] := hl
  have hp1 := tE_le ho
  have hp2 := tE_le hp1
  have hp3 := tE_le hp2
  have hp4 := tE_le hp3
  have hp5 := tE_le hp4
  have h0 : T = mu_rf (mu_rt T (nI (s_n τ))) (nI (s_m τ)) := by rw [← hrt.2.1, ← hrt.2.2.1]; exact (m_eta2 T).symm
  have hP : va_P D vwCl (mw cy ad σ (mu_rf (mu_rt T (nI (s_n τ))) (nI (s_m τ)))) s.heap := by rw [← h0]; exact hP
  have hD : va_D A (mw cy ad σ (mu_rf (mu_rt T (nI (s_n τ))) (nI (s_m τ)))) := by rw [← h0]; exact hD
  refine lv_aload_n hx hb dX11_isHat_0 rfl (lv_at hl 0 rfl) ?_
  refine lv_iload_n hx hb dX11_isHat_1 rfl (lv_at hl 1 rfl) ?_
  refine lv_iconst (v := nI 1) hx hb dX11_isHat_2 (by decide) ?_
  refine ln_iadd hx hb dX11_isHat_3 ?_
  refine lv_iconst (v := nI 0) hx hb dX11_isHat_4 (by decide) ?_
  refine lv_aload_n hx hb dX11_isHat_5 rfl (lv_at hl 0 rfl) ?_
  refine va_get (D := D) (ci := 10) (v := .int (nI (s_n τ))) (C := RX11) (T := TX11) (N := 31) hx hb hts ni11 hown hK hP 0 (mw_c0 cy ad σ (mu_rf (mu_rt T (nI (s_n τ))) (nI (s_m τ)))) rfl 13 (by decide) (hts _ flX11_101) (fun _ h => h) rfl dX11_isHat_6 ?_
  refine lv_iconst (v := nI 1) hx hb dX11_isHat_9 (by decide) ?_
  refine lv_isub hx hb dX11_isHat_10 ?_
  refine cr_w (n := 3) (As := [.int (nI (j + 1)), .int (nI (0)), .int ((nI (s_n τ)) - (nI (1)))]) (rest := []) ⟨hx, hb, hml, hown, hts⟩ (k_X11_isNumber l D cy ad σ (mu_rf (mu_rt T (nI (s_n τ))) (nI (s_m τ))) (tE σ o) (j + 1) (nI (0)) ((nI (s_n τ)) - (nI (1))) hw hrt.1 hp1 (by omega)) gvX11_104 (by decide +kernel) ⟨Nat.le_of_ble_eq_true rfl, Nat.le_of_ble_eq_true rfl⟩ hK hN hP hD hS hA 0 (mw_c0 cy ad σ (mu_rf (mu_rt T (nI (s_n τ))) (nI (s_m τ)))) rfl rfl hl.1 rfl (Nat.le_of_ble_eq_true rfl) dX11_isHat_11 ⟨Nat.zero_le _, Nat.zero_le _⟩ (fun _ => (mw_ad _ _ _ _).trans (mw_ad _ _ _ _).symm) (fun r2 u1 H locs hpu1 hP hD hS => ?_)
  obtain ⟨rfl, eyes1, eno1⟩ := hpu1
  refine lb_if_ne (tgt := 19) hx hb dX11_isHat_14 (by decide) (fun c14 => ?_) (fun c14 => ?_)
  · have hlt : tN σ (tE σ o) < s_n τ := by have hh := c14; rw [gI_lt hn8, Bool.and_eq_true] at hh; exact of_decide_eq_true hh.2
    have hkd := (hwt (tN σ (tE σ o)) (by omega)).1
    refine lv_aload_n hx hb dX11_isHat_19 rfl (lv_at hl 0 rfl) ?_
    refine va_get (D := D) (ci := 10) (v := .ref (ad 4)) (C := RX11) (T := TX11) (N := 31) hx hb hts ni11 hown hK hP 0 (mw_c0 cy ad σ u1) rfl 15 (by decide) (hts _ flX11_19) (fun _ h => h) rfl dX11_isHat_20 ?_
    refine lv_aload_n hx hb dX11_isHat_23 rfl (lv_at hl 0 rfl) ?_
    refine va_get (D := D) (ci := 10) (v := .ref (ad 5)) (C := RX11) (T := TX11) (N := 31) hx hb hts ni11 hown hK hP 0 (mw_c0 cy ad σ u1) rfl 16 (by decide) (hts _ flX11_22) (fun _ h => h) rfl dX11_isHat_24 ?_
    refine lv_iload_n hx hb dX11_isHat_27 rfl (lv_at hl 1 rfl) ?_
    refine lv_iconst (v := nI 1) hx hb dX11_isHat_28 (by decide) ?_
    refine ln_iadd hx hb dX11_isHat_29 ?_
    refine ln_iald (v := (m_rd u1 (j + 1))) hx hb hK hP 5 (mw_c5 cy ad σ u1) (by omega) (by decide) rfl dX11_isHat_30 ?_
    refine ln_eq (show (m_rd u1 (j + 1)) = (nI (tN σ (tE σ o))) from by rw [(eyes1 c14).2.2.2.2.2.2]; exact upd_s) ?_
    refine ln_iald (v := (m_rk u1 (tN σ (tE σ o)))) hx hb hK hP 4 (mw_c4 cy ad σ u1) (by omega) (by decide) rfl dX11_isHat_31 ?_
    refine ln_eq (show (m_rk u1 (tN σ (tE σ o))) = (nI (s_th τ (6 * tN σ (tE σ o)))) from by rw [(eyes1 c14).2.2.2.2.2.1]; exact hrt.2.2.2 _ hlt) ?_
    refine lv_iconst (v := nI 2) hx hb dX11_isHat_32 (by decide) ?_
    refine ln_icmp_ge (tgt := 49) hx hb dX11_isHat_33 (by decide) (by omega) (by omega) (fun c33 => ?_) (fun c33 => ?_)
    · refine lv_aload_n hx hb dX11_isHat_49 rfl (lv_at hl 0 rfl) ?_
      refine cr_w (n := 0) (As := []) (rest := []) ⟨hx, hb, hml, hown, hts⟩ (k_X11_fails l D cy ad σ u1 ) gvX11_97 (by decide +kernel) ⟨Nat.le_of_ble_eq_true rfl, Nat.le_of_ble_eq_true rfl⟩ hK hN hP hD hS hA 0 (mw_c0 cy ad σ u1) rfl rfl hl.1 rfl (Nat.le_of_ble_eq_true rfl) dX11_isHat_50 ⟨Nat.zero_le _, Nat.zero_le _⟩ (fun _ => (mw_ad _ _ _ _).trans (mw_ad _ _ _ _).symm) (fun r4 u3 H locs hpu3 hP hD hS => ?_)
      obtain ⟨rfl, efa3⟩ := hpu3
      exact rw_z hx hb hr hlocks hS u3 (LnP_f (by rw [rLine_k hk (by rw [hk8]; decide) (too_O (by rw [hk8]; decide)), hk8, slo, rNum_f (by rw [← Bool.and_assoc, ← gI_lt hn8, c14, Bool.true_and]; exact decide_eq_false (by omega))]) (efa3.trans (eyes1 c14).2.1)) hP dX11_isHat_53
    · refine lv_aload_n hx hb dX11_isHat_36 rfl (lv_at hl 0 rfl) ?_
      refine lv_iload_n hx hb dX11_isHat_37 rfl (lv_at hl 1 rfl) ?_
      refine lv_iconst (v := nI 2) hx hb dX11_isHat_38 (by decide) ?_
      refine ln_iadd hx hb dX11_isHat_39 ?_
      refine lv_iconst (v := nI 0) hx hb dX11_isHat_40 (by decide) ?_
      refine lv_bipush (v := nI 9) hx hb dX11_isHat_41 (by decide) ?_
      refine cr_w (n := 3) (As := [.int (nI (j + 2)), .int (nI (0)), .int (nI (9))]) (rest := []) ⟨hx, hb, hml, hown, hts⟩ (k_X11_isNumber l D cy ad σ u1 (tE σ (tE σ o)) (j + 2) (nI (0)) (nI (9)) hw (eyes1 c14).1 hp2 (by omega)) gvX11_104 (by decide +kernel) ⟨Nat.le_of_ble_eq_true rfl, Nat.le_of_ble_eq_true rfl⟩ hK hN hP hD hS hA 0 (mw_c0 cy ad σ u1) rfl rfl hl.1 rfl (Nat.le_of_ble_eq_true rfl) dX11_isHat_43 ⟨Nat.zero_le _, Nat.zero_le _⟩ (fun _ => (mw_ad _ _ _ _).trans (mw_ad _ _ _ _).symm) (fun r6 u5 H locs hpu5 hP hD hS => ?_)
      obtain ⟨rfl, eyes5, eno5⟩ := hpu5
      refine lv_goto (tgt := 53) hx hb dX11_isHat_46 (by decide) ?_
      exact rw_z hx hb hr hlocks hS u5 (by cases hg : gI σ (tE σ (tE σ o)) (nI (0)) (nI (9)) with | false => exact LnP_f (by rw [rLine_k hk (by rw [hk8]; decide) (too_O (by rw [hk8]; decide)), hk8, slo, rNum_t (by rw [← Bool.and_assoc, ← gI_lt hn8, c14, Bool.true_and]; exact decide_eq_true c33), rNum_f (by rw [← gI_in (by decide) (by decide)]; exact hg)]) (eno5 hg) | true => exact LnP_t (x := (tE σ (tE σ (tE σ o)), k, [tN σ (tE σ o), tN σ (tE σ (tE σ o))])) (by rw [rLine_k hk (by rw [hk8]; decide) (too_O (by rw [hk8]; decide)), hk8, slo, rNum_t (by rw [← Bool.and_assoc, ← gI_lt hn8, c14, Bool.true_and]; exact decide_eq_true c33), rNum_t (by rw [← gI_in (by decide) (by decide)]; exact hg), ← hk8]; rfl) (RT_O hrt (show 8 ≤ k by omega) (eyes5 hg).1 ((eyes5 hg).2.2.2.1.trans (eyes1 c14).2.2.2.1) ((eyes5 hg).2.2.2.2.1.trans (eyes1 c14).2.2.2.2.1) ((eyes5 hg).2.2.2.2.2.1.trans (eyes1 c14).2.2.2.2.2.1)) (LB_2 (by rw [(eyes5 hg).2.2.2.2.2.2, (eyes1 c14).2.2.2.2.2.2]; rfl) hrd) ((eyes5 hg).2.2.1.trans (eyes1 c14).2.2.1)) hP dX11_isHat_53
  · refine lv_iconst (v := nI 0) hx hb dX11_isHat_17 (by decide) ?_
    refine ln_eq bI_f.symm ?_
    exact rw_z hx hb hr hlocks hS u1 (LnP_f (by rw [rLine_k hk (by rw [hk8]; decide) (too_O (by rw [hk8]; decide)), hk8, slo, rNum_f (by rw [← Bool.and_assoc, ← gI_lt hn8, c14]; rfl)]) (eno1 c14)) hP dX11_isHat_18
