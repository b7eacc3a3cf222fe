/-- how many have been taken from the queues -/
def zSum (Z : Ss) : Nat := z_hd Z 0 + z_hd Z 1 + z_hd Z 2
theorem zSum_hd {Z : Ss} {q v : Nat} (hq : q < 3) (hv : v = z_hd Z q + 1) : zSum (zHd Z q v) = zSum Z + 1 := by
  unfold zSum
  show updN (z_hd Z) q v 0 + updN (z_hd Z) q v 1 + updN (z_hd Z) q v 2 = _
  rcases (show q = 0 ∨ q = 1 ∨ q = 2 by omega) with rfl | rfl | rfl
  · rw [updN_at, updN_ne _ _ (by decide), updN_ne _ _ (by decide)]; omega
  · rw [updN_ne _ _ (by decide), updN_at, updN_ne _ _ (by decide)]; omega
  · rw [updN_ne _ _ (by decide), updN_ne _ _ (by decide), updN_at]; omega
theorem zSum_sp (σ : Sg) (s f q pr : Nat) (Z : Ss) (x : Nat) : zSum (spX σ s f q pr Z x) = zSum Z := by unfold zSum; rw [spX_hd]
theorem q_end {σ : Sg} {goal : Nat → Bool} {Z : Ss} {P : Nat → Bool} {cur : Nat} {pp : Nat → Nat} {R : Nat → Nat → Nat → Prop} (h : qI σ goal Z P cur pp R) (hs : 6144 + 6144 ≤ zSum Z) : ∀ q, q < 3 → z_tl Z q ≤ z_hd Z q := by
  have g := h.2.2.2.2.2.2.1
  have g0 := g 0 (by omega)
  have g1 := g 1 (by omega)
  have g2 := g 2 (by omega)
  unfold zSum at hs
  intro q hq
  rcases (show q = 0 ∨ q = 1 ∨ q = 2 by omega) with rfl | rfl | rfl <;> omega
theorem wz_soon {Z : Ss} (J : Js) (fi fc : Nat → Nat) (v : Nat) : j_co (ju_tl (ju_hd (ju_wa (ju_cb (ju_co (ju_fc (ju_fi J (nf fi)) (nf fc)) (nf (z_co Z))) (nf (z_cb Z))) (nf (z_wa Z))) (nf (z_hd Z))) (nf (z_tl Z))) v = nI (z_co Z v) := by
  dsimp only [ju_tl, ju_hd, ju_wa, ju_cb, ju_co, ju_fc, ju_fi, j_co]
  rfl
def fI (σ : Sg) (goal : Nat → Bool) (a f : Nat) (Z : Ss) : Prop := (∃ P cur pp, P a = true ∧ qI σ goal Z P cur pp (fun _ _ _ => True)) ∨ (∃ P pp, P a = true ∧ qI σ goal Z P (z_co Z a) pp (fun u g _ => u ≠ a ∨ g < f))
theorem fI_first {σ : Sg} (hw : wfS σ) {goal : Nat → Bool} {Z : Ss} {P : Nat → Bool} {cur : Nat} {pp : Nat → Nat} (h : qI σ goal Z P cur pp (fun _ _ _ => True)) {q : Nat} (hs : lwt (lvP Z) (lvW Z) 3 = some q) (hg : goal (z_wa Z (z_hd Z q)) = false) : fI σ goal (z_wa Z (z_hd Z q)) 0 (zHd Z q (z_hd Z q + 1)) := by
  obtain ⟨hq, hl, -⟩ := q_min hw h hs
  cases hp : P (z_wa Z (z_hd Z q)) with
  | true => exact Or.inl ⟨P, cur, pp, hp, q_old h hq hl hp⟩
  | false => exact Or.inr ⟨_, pp, by rw [updB, if_pos rfl], q_mono (q_new hw h hs hp hg) (fun u f x _ _ hr => hr.elim id (fun r => absurd r (by omega)))⟩
theorem fI_step {σ : Sg} (hw : wfS σ) {goal : Nat → Bool} {Z : Ss} {a f : Nat} (h : fI σ goal a f Z) (hf : f < s_m σ) : fI σ goal a (f + 1) (spX σ a f f (mi σ f) Z (2 ^ s_n σ)) := by
  rcases h with ⟨P, cur, pp, hp, h⟩ | ⟨P, pp, hp, h⟩
  · rw [q_same h hp hf (Nat.le_refl _)]; exact Or.inl ⟨P, cur, pp, hp, h⟩
  · obtain ⟨pp', g⟩ := q_edges hw h hp hf (Nat.le_refl _)
    refine Or.inr ⟨P, pp', hp, q_mono g (fun u e x he hx hr => ?_)⟩
    rcases hr with r | r
    · exact Or.inl (Or.inl r)
    · by_cases hu : u = a
      · rcases (show e = f ∨ e < f by omega) with q | q
        · exact Or.inr ⟨hu, q, hx⟩
        · exact Or.inl (Or.inr q)
      · exact Or.inl (Or.inl hu)
theorem fI_end {σ : Sg} {goal : Nat → Bool} {Z : Ss} {a : Nat} (h : fI σ goal a (s_m σ) Z) : ∃ P cur pp, qI σ goal Z P cur pp (fun _ _ _ => True) := by
  rcases h with ⟨P, cur, pp, hp, h⟩ | ⟨P, pp, hp, h⟩
  · exact ⟨P, cur, pp, h⟩
  · exact ⟨P, _, pp, q_mono h (fun u f x hf _ _ => Or.inr hf)⟩
theorem fI_ok {σ : Sg} (hw : wfS σ) {goal : Nat → Bool} {Z : Ss} {a f : Nat} (h : fI σ goal a f Z) : zOk Z ∧ z_co Z a ≤ 2 ^ 19 := by
  rcases h with ⟨P, cur, pp, hp, h⟩ | ⟨P, pp, hp, h⟩
  · have h1 := (h.2.2.1 a hp).1
    have h2 := h.2.2.2.2.1
    have h3 := cntP_le P
    exact ⟨(q_ok hw h).1, by omega⟩
  · have h2 := h.2.2.2.2.1
    have h3 := cntP_le P
    exact ⟨(q_ok hw h).1, by omega⟩
set_option maxHeartbeats 4000000 in
set_option maxRecDepth 100000 in
theorem k_find_soon (l : Launch) (D : va_G) (cy : Nat → ClassId) (ad aw : Nat → Nat) (σ : Sg) (J : Js) (sn bk : Nat) (hw : wfS σ) (hj : wfJ σ J) (h1 : sn < 2 ^ s_n σ) (h2 : bk < 2) : MW l yX4_find qX4_find 5 [.ref (ad 11), .int (nI (sn)), .int (nI (bk)), .int (bI (true))] D cy (cw cy ad aw σ J) (fun (r : Int32) (u : Js) => (∃ g : Option Nat, r = oI g ∧ (∀ v, g = some v → v < 2048) ∧ isSoon σ (goalN sn bk) (v_cost u g)) ∧ wfJ σ u) (fun u : Js => cw cy ad aw σ u) := by
  intro sz
  refine Met.ofW (cc := cX4_find) (maxL := 8) (ret := (some .int)) (by decide) rfl ?_
  intro p e s m args below meth c s₁ B hml hv
  obtain ⟨rfl, rfl, hP, hK, hN, hD0⟩ := hv
  have hx := B.exec
  have hb := B.bytes
  have hr := B.returns
  have hlocks := B.notSynchronized
  have hts : ∀ cq ∈ tg, cq.before ([.ref (ad 11), .int (nI (sn)), .int (nI (bk)), .int (bI (true))] : List Value).toArray s = true := fun cq h => atoms_spec (ws := qX4_find) B.pre cq (List.mem_cons_of_mem _ h)
  have hown : s.vm.findClass RX4 = some m.cls := findClass_of_methodNamed B.named
  have hD := hD0.self (sz := s.heap.size)
  generalize hAe : va_A (cw cy ad aw σ J) s.heap.size = A at hD ⊢
  have hA : ∀ q : Nat, s.heap.size ≤ q → A q := fun q h => by rw [← hAe]; exact Or.inr h
  have hS : va_S A s.heap s.heap [] := va_S.rf
  have hl := lv_entry ([.ref (ad 11), .int (nI (sn)), .int (nI (bk)), .int (bI (true))]) (n := 8) (Nat.le_of_ble_eq_true rfl)
  rw [lg_entry_eq]
  generalize (lg_sl ([.ref (ad 11), .int (nI (sn)), .int (nI (bk)), .int (bI (true))]) ++ List.replicate (8 - (lg_sl ([.ref (ad 11), .int (nI (sn)), .int (nI (bk)), .int (bI (true))])).length) Slot.unset).toArray = ls at hl ⊢
  have hl : lv_has ls 8 [(0, .ref (ad 11)), (1, .int (nI (sn))), (2, .int (nI (bk))), (3, .int (bI (true)))] := hl
  have hw1 := hw.1
  have hw2 := hw.2.1
  have hp8 := pw_8 hw1
  have hpp := pw_pos (s_n σ)
  have hov := ov_lt hw
  have hmo := mo_lt hw
  have hof := of_lt hw
  have hs0 := st0_lt hw
  obtain ⟨fi, fc, co, cb, wa, hd, tl, hJ⟩ := se_nf J
  have hjn := hj
  rw [hJ] at hP hD hjn
  have hP : va_P D vwCl (cw cy ad aw σ (ju_tl (ju_hd (ju_wa (ju_cb (ju_co (ju_fc (ju_fi J (nf fi)) (nf fc)) (nf co)) (nf cb)) (nf wa)) (nf hd)) (nf tl))) s.heap := hP
  have hD : va_D A (cw cy ad aw σ (ju_tl (ju_hd (ju_wa (ju_cb (ju_co (ju_fc (ju_fi J (nf fi)) (nf fc)) (nf co)) (nf cb)) (nf wa)) (nf hd)) (nf tl))) := hD
  refine lv_aload_n hx hb dX4_find_0 rfl (lv_at hl 0 rfl) ?_
  refine cr_vv (n := 0) (As := []) (rest := []) ⟨hx, hb, hml, hown, hts⟩ (k_X4_clear l D cy ad aw σ J fi fc co cb wa hd tl ) gvX4_37 (by decide +kernel) ⟨Nat.le_of_ble_eq_true rfl, Nat.le_of_ble_eq_true rfl⟩ hK hN hP hD hS hA 11 (cw_c11 cy ad aw σ (ju_tl (ju_hd (ju_wa (ju_cb (ju_co (ju_fc (ju_fi J (nf fi)) (nf fc)) (nf co)) (nf cb)) (nf wa)) (nf hd)) (nf tl))) rfl rfl hl.1 rfl (Nat.le_of_ble_eq_true rfl) dX4_find_1 ⟨Nat.zero_le _, Nat.zero_le _⟩ (fun _ => (cw_ad _ _ _ _ _).trans (cw_ad _ _ _ _ _).symm) (fun u1 H locs hpu1 hP hD hS => ?_)
  have hP : va_P D vwCl (cw cy ad aw σ (ju_tl (ju_hd (ju_wa (ju_cb (ju_co (ju_fc (ju_fi J (nf fi)) (nf (fcC fc 3))) (nf u1)) (nf cb)) (nf wa)) (nf (hdC hd 3))) (nf (hdC tl 3)))) H := hP
  have hD : va_D A (cw cy ad aw σ (ju_tl (ju_hd (ju_wa (ju_cb (ju_co (ju_fc (ju_fi J (nf fi)) (nf (fcC fc 3))) (nf u1)) (nf cb)) (nf wa)) (nf (hdC hd 3))) (nf (hdC tl 3)))) := hD
  obtain ⟨Z0, hZ0⟩ : ∃ z : Ss, z = (u1, cb, wa, hdC hd 3, hdC tl 3) := ⟨_, rfl⟩
  have hz1 : ∀ v, v < 2048 → z_co Z0 v = 1048576 := fun v hv => by rw [hZ0]; exact hpu1 v hv
  have hz2 : z_tl Z0 0 = 0 ∧ z_hd Z0 0 = 0 := by rw [hZ0]; exact ⟨rfl, rfl⟩
  have hz3 : z_hd Z0 1 = 2048 ∧ z_tl Z0 1 = 2048 := by rw [hZ0]; exact ⟨rfl, rfl⟩
  have hz4 : z_hd Z0 2 = 4096 ∧ z_tl Z0 2 = 4096 := by rw [hZ0]; exact ⟨rfl, rfl⟩
  have hft0 : ftAll σ fi (fcC fc 3) 0 := ⟨fun g hg => absurd hg (by omega), fun g _ hg => by unfold fcC; rw [if_pos hg]⟩
  have hP : va_P D vwCl (cw cy ad aw σ (ju_tl (ju_hd (ju_wa (ju_cb (ju_co (ju_fc (ju_fi J (nf fi)) (nf (fcC fc 3))) (nf (z_co Z0))) (nf (z_cb Z0))) (nf (z_wa Z0))) (nf (z_hd Z0))) (nf (z_tl Z0)))) H := by rw [hZ0]; exact hP
  have hD : va_D A (cw cy ad aw σ (ju_tl (ju_hd (ju_wa (ju_cb (ju_co (ju_fc (ju_fi J (nf fi)) (nf (fcC fc 3))) (nf (z_co Z0))) (nf (z_cb Z0))) (nf (z_wa Z0))) (nf (z_hd Z0))) (nf (z_tl Z0)))) := by rw [hZ0]; exact hD
  generalize fcC fc 3 = fd at hP hD hft0
  clear hZ0 hjn hJ
  refine lv_iconst (v := nI 0) hx hb dX4_find_4 (by decide) ?_
  refine lv_istore (lv' := [(4, .int (nI (0))), (0, .ref (ad 11)), (1, .int (nI (sn))), (2, .int (nI (bk))), (3, .int (bI (true)))]) hx hb dX4_find_5 hl (by decide) rfl (fun ls hl => ?_)
  have l0 : ∀ (k_l0 f : Nat) (ls : Array Slot) (H : Heap) (locs : List Loc) (fi_ fc_ : Nat → Nat), f + k_l0 = s_m σ → ftAll σ fi_ fc_ f → va_P D vwCl (cw cy ad aw σ (ju_tl (ju_hd (ju_wa (ju_cb (ju_co (ju_fc (ju_fi J (nf fi_)) (nf fc_)) (nf (z_co Z0))) (nf (z_cb Z0))) (nf (z_wa Z0))) (nf (z_hd Z0))) (nf (z_tl Z0)))) H → va_D A (cw cy ad aw σ (ju_tl (ju_hd (ju_wa (ju_cb (ju_co (ju_fc (ju_fi J (nf fi_)) (nf fc_)) (nf (z_co Z0))) (nf (z_cb Z0))) (nf (z_wa Z0))) (nf (z_hd Z0))) (nf (z_tl Z0)))) → va_S A s.heap H locs → lv_has ls 8 [(4, .int (nI (f))), (0, .ref (ad 11)), (1, .int (nI (sn))), (2, .int (nI (bk))), (3, .int (bI (true)))] → W p l e (headSpec qX4_find (rq 5)).room s m ([.ref (ad 11), .int (nI (sn)), .int (nI (bk)), .int (bI (true))] : List Value).toArray below meth c H locs 0 0 (MQ below (va_Qi (fun (r : Int32) (u : Js) => (∃ g : Option Nat, r = oI g ∧ (∀ v, g = some v → v < 2048) ∧ isSoon σ (goalN sn bk) (v_cost u g)) ∧ wfJ σ u) (fun u t => va_P D vwCl ((fun u : Js => cw cy ad aw σ u) u) t.heap) A) ([.ref (ad 11), .int (nI (sn)), .int (nI (bk)), .int (bI (true))] : List Value).toArray s 0 0 A) (F0 m 7 ls []) := by
    intro k_l0
    induction k_l0 with
    | zero =>
      intro f ls H locs fi_ fc_ hi_l0 hft hP hD hS hl
      refine lv_iload hx hb dX4_find_7 (lv_at hl 0 rfl) ?_
      refine lv_aload_n hx hb dX4_find_9 rfl (lv_at hl 1 rfl) ?_
      refine va_get (D := D) (ci := 4) (v := .ref (ad 3)) (C := RX4) (T := TX4) (N := 8) hx hb hts ni4 hown hK hP 11 (cw_c11 cy ad aw σ (ju_tl (ju_hd (ju_wa (ju_cb (ju_co (ju_fc (ju_fi J (nf fi_)) (nf fc_)) (nf (z_co Z0))) (nf (z_cb Z0))) (nf (z_wa Z0))) (nf (z_hd Z0))) (nf (z_tl Z0)))) rfl 0 (by decide) (hts _ flX4_33) (fun _ h => h) rfl dX4_find_10 ?_
      refine va_get (D := D) (ci := 3) (v := .int (nI (s_m σ))) (C := RX3) (T := TX3) (N := 9) hx hb hts ni3 hown hK hP 3 (cw_c3 cy ad aw σ (ju_tl (ju_hd (ju_wa (ju_cb (ju_co (ju_fc (ju_fi J (nf fi_)) (nf fc_)) (nf (z_co Z0))) (nf (z_cb Z0))) (nf (z_wa Z0))) (nf (z_hd Z0))) (nf (z_tl Z0)))) rfl 4 (by decide) (hts _ flX4_40) (fun _ h => h) rfl dX4_find_13 ?_
      refine ln_icmp_ge (tgt := 31) hx hb dX4_find_16 (by decide) (by omega) (by omega) (fun c16 => ?_) (fun c16 => ?_)
      · rw [show f = s_m σ by omega] at hft
        refine lv_aload_n hx hb dX4_find_31 rfl (lv_at hl 1 rfl) ?_
        refine lv_aload_n hx hb dX4_find_32 rfl (lv_at hl 1 rfl) ?_
        refine va_get (D := D) (ci := 4) (v := .ref (ad 3)) (C := RX4) (T := TX4) (N := 8) hx hb hts ni4 hown hK hP 11 (cw_c11 cy ad aw σ (ju_tl (ju_hd (ju_wa (ju_cb (ju_co (ju_fc (ju_fi J (nf fi_)) (nf fc_)) (nf (z_co Z0))) (nf (z_cb Z0))) (nf (z_wa Z0))) (nf (z_hd Z0))) (nf (z_tl Z0)))) rfl 0 (by decide) (hts _ flX4_33) (fun _ h => h) rfl dX4_find_33 ?_
        refine va_get (D := D) (ci := 3) (v := .ref (ad 6)) (C := RX3) (T := TX3) (N := 9) hx hb hts ni3 hown hK hP 3 (cw_c3 cy ad aw σ (ju_tl (ju_hd (ju_wa (ju_cb (ju_co (ju_fc (ju_fi J (nf fi_)) (nf fc_)) (nf (z_co Z0))) (nf (z_cb Z0))) (nf (z_wa Z0))) (nf (z_hd Z0))) (nf (z_tl Z0)))) rfl 2 (by decide) (hts _ flX4_50) (fun _ h => h) rfl dX4_find_36 ?_
        refine va_get (D := D) (ci := 5) (v := .int (nI (s_ov σ + 256 * s_mo σ))) (C := RX5) (T := TX5) (N := 5) hx hb hts ni5 hown hK hP 6 (cw_c6 cy ad aw σ (ju_tl (ju_hd (ju_wa (ju_cb (ju_co (ju_fc (ju_fi J (nf fi_)) (nf fc_)) (nf (z_co Z0))) (nf (z_cb Z0))) (nf (z_wa Z0))) (nf (z_hd Z0))) (nf (z_tl Z0)))) rfl 1 (by decide) (hts _ flX4_54) (fun _ h => h) rfl dX4_find_39 ?_
        refine ln_nat (show s_ov σ + 256 * s_mo σ = st0 σ from st0_K σ) ?_
        refine lv_iconst (v := -1) hx hb dX4_find_42 (by decide) ?_
        refine ln_eq (show (-1) = (nI (4294967295)) from by decide) ?_
        refine lv_iconst (v := nI 0) hx hb dX4_find_43 (by decide) ?_
        refine lv_iconst (v := nI 0) hx hb dX4_find_44 (by decide) ?_
        refine cr_vv (n := 4) (As := [.int (nI (st0 σ)), .int (nI (4294967295)), .int (nI (0)), .int (nI (0))]) (rest := []) ⟨hx, hb, hml, hown, hts⟩ (k_X4_reach l D cy ad aw σ J fi_ fc_ Z0 (st0 σ) 4294967295 0 0 hs0 (by decide) (by decide) (by rw [hz1 _ hs0]; decide) (by rw [hz2.1]; decide)) gvX4_59 (by decide +kernel) ⟨Nat.le_of_ble_eq_true rfl, Nat.le_of_ble_eq_true rfl⟩ hK hN hP hD hS hA 11 (cw_c11 cy ad aw σ (ju_tl (ju_hd (ju_wa (ju_cb (ju_co (ju_fc (ju_fi J (nf fi_)) (nf fc_)) (nf (z_co Z0))) (nf (z_cb Z0))) (nf (z_wa Z0))) (nf (z_hd Z0))) (nf (z_tl Z0)))) rfl rfl hl.1 rfl (Nat.le_of_ble_eq_true rfl) dX4_find_45 ⟨Nat.zero_le _, Nat.zero_le _⟩ (fun _ => (cw_ad _ _ _ _ _).trans (cw_ad _ _ _ _ _).symm) (fun u2 H locs hpu2 hP hD hS => ?_)
        have hP : va_P D vwCl (cw cy ad aw σ (ju_tl (ju_hd (ju_wa (ju_cb (ju_co (ju_fc (ju_fi J (nf fi_)) (nf fc_)) (nf (z_co (rcF (st0 σ) 4294967295 0 0 Z0)))) (nf (z_cb (rcF (st0 σ) 4294967295 0 0 Z0)))) (nf (z_wa (rcF (st0 σ) 4294967295 0 0 Z0)))) (nf (z_hd (rcF (st0 σ) 4294967295 0 0 Z0)))) (nf (z_tl (rcF (st0 σ) 4294967295 0 0 Z0))))) H := hP
        have hD : va_D A (cw cy ad aw σ (ju_tl (ju_hd (ju_wa (ju_cb (ju_co (ju_fc (ju_fi J (nf fi_)) (nf fc_)) (nf (z_co (rcF (st0 σ) 4294967295 0 0 Z0)))) (nf (z_cb (rcF (st0 σ) 4294967295 0 0 Z0)))) (nf (z_wa (rcF (st0 σ) 4294967295 0 0 Z0)))) (nf (z_hd (rcF (st0 σ) 4294967295 0 0 Z0)))) (nf (z_tl (rcF (st0 σ) 4294967295 0 0 Z0))))) := hD
        refine lv_iconst (v := nI 0) hx hb dX4_find_48 (by decide) ?_
        refine lv_istore (lv' := [(4, .int (nI (0))), (0, .ref (ad 11)), (1, .int (nI (sn))), (2, .int (nI (bk))), (3, .int (bI (true)))]) hx hb dX4_find_49 hl (by decide) rfl (fun ls hl => ?_)
        have lp : ∀ (k_lp i : Nat) (ls : Array Slot) (H : Heap) (locs : List Loc) (Z : Ss), i + k_lp = 6144 → (∃ P cur pp, qI σ (goalN sn bk) Z P cur pp (fun _ _ _ => True)) → zSum Z = i + 6144 → va_P D vwCl (cw cy ad aw σ (ju_tl (ju_hd (ju_wa (ju_cb (ju_co (ju_fc (ju_fi J (nf fi_)) (nf fc_)) (nf (z_co Z))) (nf (z_cb Z))) (nf (z_wa Z))) (nf (z_hd Z))) (nf (z_tl Z)))) H → va_D A (cw cy ad aw σ (ju_tl (ju_hd (ju_wa (ju_cb (ju_co (ju_fc (ju_fi J (nf fi_)) (nf fc_)) (nf (z_co Z))) (nf (z_cb Z))) (nf (z_wa Z))) (nf (z_hd Z))) (nf (z_tl Z)))) → va_S A s.heap H locs → lv_has ls 8 [(4, .int (nI (i))), (0, .ref (ad 11)), (1, .int (nI (sn))), (2, .int (nI (bk))), (3, .int (bI (true)))] → W p l e (headSpec qX4_find (rq 5)).room s m ([.ref (ad 11), .int (nI (sn)), .int (nI (bk)), .int (bI (true))] : List Value).toArray below meth c H locs 0 0 (MQ below (va_Qi (fun (r : Int32) (u : Js) => (∃ g : Option Nat, r = oI g ∧ (∀ v, g = some v → v < 2048) ∧ isSoon σ (goalN sn bk) (v_cost u g)) ∧ wfJ σ u) (fun u t => va_P D vwCl ((fun u : Js => cw cy ad aw σ u) u) t.heap) A) ([.ref (ad 11), .int (nI (sn)), .int (nI (bk)), .int (bI (true))] : List Value).toArray s 0 0 A) (F0 m 51 ls []) := by
          intro k_lp
          induction k_lp with
          | zero =>
            intro i ls H locs Z hi_lp hIe hsu hP hD hS hl
            obtain ⟨PP, cur, pp, hI⟩ := hIe
            refine lv_iload hx hb dX4_find_51 (lv_at hl 0 rfl) ?_
            refine lv_aload_n hx hb dX4_find_53 rfl (lv_at hl 1 rfl) ?_
            refine va_get (D := D) (ci := 4) (v := .ref (ad 16)) (C := RX4) (T := TX4) (N := 8) hx hb hts ni4 hown hK hP 11 (cw_c11 cy ad aw σ (ju_tl (ju_hd (ju_wa (ju_cb (ju_co (ju_fc (ju_fi J (nf fi_)) (nf fc_)) (nf (z_co Z))) (nf (z_cb Z))) (nf (z_wa Z))) (nf (z_hd Z))) (nf (z_tl Z)))) rfl 5 (by decide) (hts _ flX4_24) (fun _ h => h) rfl dX4_find_54 ?_
            refine ln_alen (n := 6144) hx hb hK hP 16 0 (cw_c16 cy ad aw σ (ju_tl (ju_hd (ju_wa (ju_cb (ju_co (ju_fc (ju_fi J (nf fi_)) (nf fc_)) (nf (z_co Z))) (nf (z_cb Z))) (nf (z_wa Z))) (nf (z_hd Z))) (nf (z_tl Z)))) rfl rfl dX4_find_57 ?_
            refine ln_icmp_ge (tgt := 179) hx hb dX4_find_58 (by decide) (by omega) (by omega) (fun c58 => ?_) (fun c58 => ?_)
            · refine lv_iconst (v := -1) hx hb dX4_find_179 (by decide) ?_
              exact rw_i hx hb hr hlocks hS (ju_tl (ju_hd (ju_wa (ju_cb (ju_co (ju_fc (ju_fi J (nf fi_)) (nf fc_)) (nf (z_co Z))) (nf (z_cb Z))) (nf (z_wa Z))) (nf (z_hd Z))) (nf (z_tl Z))) (⟨⟨none, rfl, fun v h => (by cases h), q_none hw hI (q_end hI (by omega))⟩, wfJ_se hj _ _ _ _ _ _ _⟩) hP dX4_find_180
            · exact absurd c58 (by omega)
          | succ k_lp ih_lp =>
            intro i ls H locs Z hi_lp hIe hsu hP hD hS hl
            obtain ⟨PP, cur, pp, hI⟩ := hIe
            refine lv_iload hx hb dX4_find_51 (lv_at hl 0 rfl) ?_
            refine lv_aload_n hx hb dX4_find_53 rfl (lv_at hl 1 rfl) ?_
            refine va_get (D := D) (ci := 4) (v := .ref (ad 16)) (C := RX4) (T := TX4) (N := 8) hx hb hts ni4 hown hK hP 11 (cw_c11 cy ad aw σ (ju_tl (ju_hd (ju_wa (ju_cb (ju_co (ju_fc (ju_fi J (nf fi_)) (nf fc_)) (nf (z_co Z))) (nf (z_cb Z))) (nf (z_wa Z))) (nf (z_hd Z))) (nf (z_tl Z)))) rfl 5 (by decide) (hts _ flX4_24) (fun _ h => h) rfl dX4_find_54 ?_
            refine ln_alen (n := 6144) hx hb hK hP 16 0 (cw_c16 cy ad aw σ (ju_tl (ju_hd (ju_wa (ju_cb (ju_co (ju_fc (ju_fi J (nf fi_)) (nf fc_)) (nf (z_co Z))) (nf (z_cb Z))) (nf (z_wa Z))) (nf (z_hd Z))) (nf (z_tl Z)))) rfl rfl dX4_find_57 ?_
            refine ln_icmp_ge (tgt := 179) hx hb dX4_find_58 (by decide) (by omega) (by omega) (fun c58 => ?_) (fun c58 => ?_)
            · exact absurd c58 (by omega)
            · refine lv_aload_n hx hb dX4_find_61 rfl (lv_at hl 1 rfl) ?_
              refine cr_v (n := 0) (As := []) (rest := []) ⟨hx, hb, hml, hown, hts⟩ (k_X4_cheapestQueue l D cy ad aw σ J fi_ fc_ Z (q_ok hw hI).2) gvX4_63 (by decide +kernel) ⟨Nat.le_of_ble_eq_true rfl, Nat.le_of_ble_eq_true rfl⟩ hK hN hP 11 (cw_c11 cy ad aw σ (ju_tl (ju_hd (ju_wa (ju_cb (ju_co (ju_fc (ju_fi J (nf fi_)) (nf fc_)) (nf (z_co Z))) (nf (z_cb Z))) (nf (z_wa Z))) (nf (z_hd Z))) (nf (z_tl Z)))) rfl rfl hl.1 rfl (Nat.le_of_ble_eq_true rfl) dX4_find_62 ⟨Nat.zero_le _, Nat.zero_le _⟩ ?_
              refine lv_istore (lv' := [(5, .int (oI (lwt (lvP Z) (lvW Z) 3))), (4, .int (nI (i))), (0, .ref (ad 11)), (1, .int (nI (sn))), (2, .int (nI (bk))), (3, .int (bI (true)))]) hx hb dX4_find_65 hl (by decide) rfl (fun ls hl => ?_)
              rcases opt_c (lwt (lvP Z) (lvW Z) 3) with hqq | ⟨qq, hqq⟩
              · rw [hqq] at hl
                have hl : lv_has ls 8 [(5, .int (-1)), (4, .int (nI (i))), (0, .ref (ad 11)), (1, .int (nI (sn))), (2, .int (nI (bk))), (3, .int (bI (true)))] := hl
                refine lv_iload hx hb dX4_find_67 (lv_at hl 0 rfl) ?_
                refine lv_iconst (v := -1) hx hb dX4_find_69 (by decide) ?_
                refine lv_icmp_ne (tgt := 75) hx hb dX4_find_70 (by decide) (fun c => absurd rfl c) (fun _ => ?_)
                refine lv_iconst (v := -1) hx hb dX4_find_73 (by decide) ?_
                exact rw_i hx hb hr hlocks hS (ju_tl (ju_hd (ju_wa (ju_cb (ju_co (ju_fc (ju_fi J (nf fi_)) (nf fc_)) (nf (z_co Z))) (nf (z_cb Z))) (nf (z_wa Z))) (nf (z_hd Z))) (nf (z_tl Z))) (⟨⟨none, rfl, fun v h => (by cases h), q_none hw hI (lwt3_none hqq)⟩, wfJ_se hj _ _ _ _ _ _ _⟩) hP dX4_find_74
              · rw [hqq] at hl
                have hl : lv_has ls 8 [(5, .int (nI (qq))), (4, .int (nI (i))), (0, .ref (ad 11)), (1, .int (nI (sn))), (2, .int (nI (bk))), (3, .int (bI (true)))] := hl
                obtain ⟨hq3, hlv, hmin⟩ := q_min hw hI hqq
                have hg8 := hI.2.2.2.2.2.2.2.1 qq (z_hd Z qq) hq3 (hI.2.2.2.2.2.2.1 qq hq3).1 hlv
                have hg7 := hI.2.2.2.2.2.2.1 qq hq3
                have hq6 : (qq + 1) * 2048 ≤ 6144 := Nat.mul_le_mul_right 2048 (show qq + 1 ≤ 3 by omega)
                have hsv : z_wa Z (z_hd Z qq) < 2048 := hg8.1
                have hsm : z_wa Z (z_hd Z qq) % 256 < 256 := Nat.mod_lt _ (by decide)
                refine lv_iload hx hb dX4_find_67 (lv_at hl 0 rfl) ?_
                refine lv_iconst (v := -1) hx hb dX4_find_69 (by decide) ?_
                refine lv_icmp_ne (tgt := 75) hx hb dX4_find_70 (by decide) (fun _ => ?_) (fun c => absurd c (m1_ne _ (by omega)))
                refine lv_aload_n hx hb dX4_find_75 rfl (lv_at hl 2 rfl) ?_
                refine va_get (D := D) (ci := 4) (v := .ref (ad 16)) (C := RX4) (T := TX4) (N := 8) hx hb hts ni4 hown hK hP 11 (cw_c11 cy ad aw σ (ju_tl (ju_hd (ju_wa (ju_cb (ju_co (ju_fc (ju_fi J (nf fi_)) (nf fc_)) (nf (z_co Z))) (nf (z_cb Z))) (nf (z_wa Z))) (nf (z_hd Z))) (nf (z_tl Z)))) rfl 5 (by decide) (hts _ flX4_24) (fun _ h => h) rfl dX4_find_76 ?_
                refine lv_aload_n hx hb dX4_find_79 rfl (lv_at hl 2 rfl) ?_
                refine va_get (D := D) (ci := 4) (v := .ref (ad 17)) (C := RX4) (T := TX4) (N := 8) hx hb hts ni4 hown hK hP 11 (cw_c11 cy ad aw σ (ju_tl (ju_hd (ju_wa (ju_cb (ju_co (ju_fc (ju_fi J (nf fi_)) (nf fc_)) (nf (z_co Z))) (nf (z_cb Z))) (nf (z_wa Z))) (nf (z_hd Z))) (nf (z_tl Z)))) rfl 6 (by decide) (hts _ flX4_27) (fun _ h => h) rfl dX4_find_80 ?_
                refine lv_iload hx hb dX4_find_83 (lv_at hl 0 rfl) ?_
                refine ln_iald (v := (nI ((z_hd Z) qq))) hx hb hK hP 17 (cw_c17 cy ad aw σ (ju_tl (ju_hd (ju_wa (ju_cb (ju_co (ju_fc (ju_fi J (nf fi_)) (nf fc_)) (nf (z_co Z))) (nf (z_cb Z))) (nf (z_wa Z))) (nf (z_hd Z))) (nf (z_tl Z)))) (by omega) (by decide) rfl dX4_find_85 ?_
                refine ln_iald (v := (nI ((z_wa Z) ((z_hd Z) qq)))) hx hb hK hP 16 (cw_c16 cy ad aw σ (ju_tl (ju_hd (ju_wa (ju_cb (ju_co (ju_fc (ju_fi J (nf fi_)) (nf fc_)) (nf (z_co Z))) (nf (z_cb Z))) (nf (z_wa Z))) (nf (z_hd Z))) (nf (z_tl Z)))) (by omega) (by decide) rfl dX4_find_86 ?_
                refine ln_nat (show (z_wa Z) ((z_hd Z) qq) = (z_wa Z (z_hd Z qq)) % 256 + 256 * ((z_wa Z (z_hd Z qq)) / 256) from (Nat.mod_add_div _ _).symm) ?_
                refine lv_istore (lv' := [(6, .int (nI ((z_wa Z (z_hd Z qq)) % 256 + 256 * ((z_wa Z (z_hd Z qq)) / 256)))), (5, .int (nI (qq))), (4, .int (nI (i))), (0, .ref (ad 11)), (1, .int (nI (sn))), (2, .int (nI (bk))), (3, .int (bI (true)))]) hx hb dX4_find_87 hl (by decide) rfl (fun ls hl => ?_)
                refine lv_aload_n hx hb dX4_find_89 rfl (lv_at hl 3 rfl) ?_
                refine va_get (D := D) (ci := 4) (v := .ref (ad 17)) (C := RX4) (T := TX4) (N := 8) hx hb hts ni4 hown hK hP 11 (cw_c11 cy ad aw σ (ju_tl (ju_hd (ju_wa (ju_cb (ju_co (ju_fc (ju_fi J (nf fi_)) (nf fc_)) (nf (z_co Z))) (nf (z_cb Z))) (nf (z_wa Z))) (nf (z_hd Z))) (nf (z_tl Z)))) rfl 6 (by decide) (hts _ flX4_27) (fun _ h => h) rfl dX4_find_90 ?_
                refine lv_iload hx hb dX4_find_93 (lv_at hl 1 rfl) ?_
                refine lv_dup2_11 hx hb dX4_find_95 rfl rfl ?_
                refine ln_iald (v := (nI ((z_hd Z) qq))) hx hb hK hP 17 (cw_c17 cy ad aw σ (ju_tl (ju_hd (ju_wa (ju_cb (ju_co (ju_fc (ju_fi J (nf fi_)) (nf fc_)) (nf (z_co Z))) (nf (z_cb Z))) (nf (z_wa Z))) (nf (z_hd Z))) (nf (z_tl Z)))) (by omega) (by decide) rfl dX4_find_96 ?_
                refine lv_iconst (v := nI 1) hx hb dX4_find_97 (by decide) ?_
                refine ln_iadd hx hb dX4_find_98 ?_
                refine ln_iast hx hb hK hP hD hS 17 (cw_c17 cy ad aw σ (ju_tl (ju_hd (ju_wa (ju_cb (ju_co (ju_fc (ju_fi J (nf fi_)) (nf fc_)) (nf (z_co Z))) (nf (z_cb Z))) (nf (z_wa Z))) (nf (z_hd Z))) (nf (z_tl Z)))) (by omega) (by decide) ((cp_17 cy ad aw σ (ju_tl (ju_hd (ju_wa (ju_cb (ju_co (ju_fc (ju_fi J (nf fi_)) (nf fc_)) (nf (z_co Z))) (nf (z_cb Z))) (nf (z_wa Z))) (nf (z_hd Z))) (nf (z_tl Z))) qq (nI (((z_hd Z) qq) + 1))).trans (congrArg (fun z => cw cy ad aw σ z) (by rw [show upd (j_hd (ju_tl (ju_hd (ju_wa (ju_cb (ju_co (ju_fc (ju_fi J (nf fi_)) (nf fc_)) (nf (z_co Z))) (nf (z_cb Z))) (nf (z_wa Z))) (nf (z_hd Z))) (nf (z_tl Z)))) qq (nI (((z_hd Z) qq) + 1)) = nf (updN (z_hd Z) qq (((z_hd Z) qq) + 1)) from nf_upd _ _ _, jx_hd_tl, jc_hd]))) dX4_find_99 (fun H locs hP hD hS => ?_)
                have hP : va_P D vwCl (cw cy ad aw σ (ju_tl (ju_hd (ju_wa (ju_cb (ju_co (ju_fc (ju_fi J (nf fi_)) (nf fc_)) (nf (z_co (zHd Z qq (z_hd Z qq + 1))))) (nf (z_cb (zHd Z qq (z_hd Z qq + 1))))) (nf (z_wa (zHd Z qq (z_hd Z qq + 1))))) (nf (z_hd (zHd Z qq (z_hd Z qq + 1))))) (nf (z_tl (zHd Z qq (z_hd Z qq + 1)))))) H := hP
                have hD : va_D A (cw cy ad aw σ (ju_tl (ju_hd (ju_wa (ju_cb (ju_co (ju_fc (ju_fi J (nf fi_)) (nf fc_)) (nf (z_co (zHd Z qq (z_hd Z qq + 1))))) (nf (z_cb (zHd Z qq (z_hd Z qq + 1))))) (nf (z_wa (zHd Z qq (z_hd Z qq + 1))))) (nf (z_hd (zHd Z qq (z_hd Z qq + 1))))) (nf (z_tl (zHd Z qq (z_hd Z qq + 1)))))) := hD
                refine lv_iload_n hx hb dX4_find_100 rfl (lv_at hl 5 rfl) ?_
                refine lv_iload_n hx hb dX4_find_101 rfl (lv_at hl 4 rfl) ?_
                refine lv_iload hx hb dX4_find_102 (lv_at hl 0 rfl) ?_
                refine cr_sn (host := "NumberFerries") (n := 3) (As := [.int (nI (bk)), .int (nI (sn)), .int (nI ((z_wa Z (z_hd Z qq)) % 256 + 256 * ((z_wa Z (z_hd Z qq)) / 256)))]) (rest := []) ⟨hx, hb, hml, hown, hts⟩ (k_X10_allOn l bk sn ((z_wa Z (z_hd Z qq)) % 256) ((z_wa Z (z_hd Z qq)) / 256) (by omega) (by omega) (by omega) (by omega)) (hN _ (List.mem_of_getElem? (i := 2) rfl)) (hts _ smX10_allOn) (hts _ iniX10) (gc_of cdX10_allOn) (by decide +kernel) ⟨Nat.le_of_ble_eq_true rfl, Nat.le_of_ble_eq_true rfl⟩ rfl hl.1 rfl (Nat.le_of_ble_eq_true rfl) dX4_find_104 ⟨Nat.zero_le _, Nat.zero_le _⟩ ?_
                refine lb_if_eq (tgt := 113) hx hb dX4_find_107 (by decide) (fun c107 => ?_) (fun c107 => ?_)
                · have hgf : goalN sn bk (z_wa Z (z_hd Z qq)) = false := by rw [goalN, and_255]; exact c107
                  have hI1 := fI_first hw hI hqq hgf
                  have hsu1 := zSum_hd (Z := Z) hq3 rfl
                  refine lv_iconst (v := nI 0) hx hb dX4_find_113 (by decide) ?_
                  refine lv_istore (lv' := [(7, .int (nI (0))), (6, .int (nI ((z_wa Z (z_hd Z qq)) % 256 + 256 * ((z_wa Z (z_hd Z qq)) / 256)))), (5, .int (nI (qq))), (4, .int (nI (i))), (0, .ref (ad 11)), (1, .int (nI (sn))), (2, .int (nI (bk))), (3, .int (bI (true)))]) hx hb dX4_find_114 hl (by decide) rfl (fun ls hl => ?_)
                  have lf : ∀ (k_lf f : Nat) (ls : Array Slot) (H : Heap) (locs : List Loc) (Zf : Ss), f + k_lf = s_m σ → fI σ (goalN sn bk) (z_wa Z (z_hd Z qq)) f Zf → zSum Zf = i + 1 + 6144 → va_P D vwCl (cw cy ad aw σ (ju_tl (ju_hd (ju_wa (ju_cb (ju_co (ju_fc (ju_fi J (nf fi_)) (nf fc_)) (nf (z_co Zf))) (nf (z_cb Zf))) (nf (z_wa Zf))) (nf (z_hd Zf))) (nf (z_tl Zf)))) H → va_D A (cw cy ad aw σ (ju_tl (ju_hd (ju_wa (ju_cb (ju_co (ju_fc (ju_fi J (nf fi_)) (nf fc_)) (nf (z_co Zf))) (nf (z_cb Zf))) (nf (z_wa Zf))) (nf (z_hd Zf))) (nf (z_tl Zf)))) → va_S A s.heap H locs → lv_has ls 8 [(7, .int (nI (f))), (6, .int (nI ((z_wa Z (z_hd Z qq)) % 256 + 256 * ((z_wa Z (z_hd Z qq)) / 256)))), (5, .int (nI (qq))), (4, .int (nI (i))), (0, .ref (ad 11)), (1, .int (nI (sn))), (2, .int (nI (bk))), (3, .int (bI (true)))] → W p l e (headSpec qX4_find (rq 5)).room s m ([.ref (ad 11), .int (nI (sn)), .int (nI (bk)), .int (bI (true))] : List Value).toArray below meth c H locs 0 0 (MQ below (va_Qi (fun (r : Int32) (u : Js) => (∃ g : Option Nat, r = oI g ∧ (∀ v, g = some v → v < 2048) ∧ isSoon σ (goalN sn bk) (v_cost u g)) ∧ wfJ σ u) (fun u t => va_P D vwCl ((fun u : Js => cw cy ad aw σ u) u) t.heap) A) ([.ref (ad 11), .int (nI (sn)), .int (nI (bk)), .int (bI (true))] : List Value).toArray s 0 0 A) (F0 m 116 ls []) := by
                    intro k_lf
                    induction k_lf with
                    | zero =>
                      intro f ls H locs Zf hi_lf hIf hsf hP hD hS hl
                      refine lv_iload hx hb dX4_find_116 (lv_at hl 0 rfl) ?_
                      refine lv_aload_n hx hb dX4_find_118 rfl (lv_at hl 4 rfl) ?_
                      refine va_get (D := D) (ci := 4) (v := .ref (ad 3)) (C := RX4) (T := TX4) (N := 8) hx hb hts ni4 hown hK hP 11 (cw_c11 cy ad aw σ (ju_tl (ju_hd (ju_wa (ju_cb (ju_co (ju_fc (ju_fi J (nf fi_)) (nf fc_)) (nf (z_co Zf))) (nf (z_cb Zf))) (nf (z_wa Zf))) (nf (z_hd Zf))) (nf (z_tl Zf)))) rfl 0 (by decide) (hts _ flX4_33) (fun _ h => h) rfl dX4_find_119 ?_
                      refine va_get (D := D) (ci := 3) (v := .int (nI (s_m σ))) (C := RX3) (T := TX3) (N := 9) hx hb hts ni3 hown hK hP 3 (cw_c3 cy ad aw σ (ju_tl (ju_hd (ju_wa (ju_cb (ju_co (ju_fc (ju_fi J (nf fi_)) (nf fc_)) (nf (z_co Zf))) (nf (z_cb Zf))) (nf (z_wa Zf))) (nf (z_hd Zf))) (nf (z_tl Zf)))) rfl 4 (by decide) (hts _ flX4_40) (fun _ h => h) rfl dX4_find_122 ?_
                      refine ln_icmp_ge (tgt := 173) hx hb dX4_find_125 (by decide) (by omega) (by omega) (fun c125 => ?_) (fun c125 => ?_)
                      · rw [show f = s_m σ by omega] at hIf
                        have hIn := fI_end hIf
                        have hsn := hsf
                        have hl : lv_has ls 8 [(4, .int (nI (i))), (0, .ref (ad 11)), (1, .int (nI (sn))), (2, .int (nI (bk))), (3, .int (bI (true)))] := lv_sub hl [3, 4, 5, 6, 7] rfl
                        refine ln_iinc (lv' := [(4, .int (nI (i + 1))), (0, .ref (ad 11)), (1, .int (nI (sn))), (2, .int (nI (bk))), (3, .int (bI (true)))]) hx hb dX4_find_173 hl (k := 0) (n := 1) rfl (by decide) rfl (fun ls hl => ?_)
                        refine lv_goto (tgt := 51) hx hb dX4_find_176 (by decide) ?_
                        have hl : lv_has ls 8 [(4, .int (nI (i + 1))), (0, .ref (ad 11)), (1, .int (nI (sn))), (2, .int (nI (bk))), (3, .int (bI (true)))] := lv_sub hl [0, 1, 2, 3, 4] rfl
                        exact ih_lp (i + 1) ls _ _ _ (by omega) hIn hsn hP hD hS hl
                      · exact absurd c125 (by omega)
                    | succ k_lf ih_lf =>
                      intro f ls H locs Zf hi_lf hIf hsf hP hD hS hl
                      refine lv_iload hx hb dX4_find_116 (lv_at hl 0 rfl) ?_
                      refine lv_aload_n hx hb dX4_find_118 rfl (lv_at hl 4 rfl) ?_
                      refine va_get (D := D) (ci := 4) (v := .ref (ad 3)) (C := RX4) (T := TX4) (N := 8) hx hb hts ni4 hown hK hP 11 (cw_c11 cy ad aw σ (ju_tl (ju_hd (ju_wa (ju_cb (ju_co (ju_fc (ju_fi J (nf fi_)) (nf fc_)) (nf (z_co Zf))) (nf (z_cb Zf))) (nf (z_wa Zf))) (nf (z_hd Zf))) (nf (z_tl Zf)))) rfl 0 (by decide) (hts _ flX4_33) (fun _ h => h) rfl dX4_find_119 ?_
                      refine va_get (D := D) (ci := 3) (v := .int (nI (s_m σ))) (C := RX3) (T := TX3) (N := 9) hx hb hts ni3 hown hK hP 3 (cw_c3 cy ad aw σ (ju_tl (ju_hd (ju_wa (ju_cb (ju_co (ju_fc (ju_fi J (nf fi_)) (nf fc_)) (nf (z_co Zf))) (nf (z_cb Zf))) (nf (z_wa Zf))) (nf (z_hd Zf))) (nf (z_tl Zf)))) rfl 4 (by decide) (hts _ flX4_40) (fun _ h => h) rfl dX4_find_122 ?_
                      refine ln_icmp_ge (tgt := 173) hx hb dX4_find_125 (by decide) (by omega) (by omega) (fun c125 => ?_) (fun c125 => ?_)
                      · exact absurd c125 (by omega)
                      · refine lv_aload_n hx hb dX4_find_128 rfl (lv_at hl 4 rfl) ?_
                        refine lv_iload hx hb dX4_find_129 (lv_at hl 1 rfl) ?_
                        refine lv_iload hx hb dX4_find_131 (lv_at hl 0 rfl) ?_
                        refine lv_iload_n hx hb dX4_find_133 rfl (lv_at hl 7 rfl) ?_
                        refine lb_if_eq (tgt := 142) hx hb dX4_find_134 (by decide) (fun c => absurd c (by decide)) (fun _ => ?_)
                        refine lv_iload hx hb dX4_find_137 (lv_at hl 0 rfl) ?_
                        refine lv_goto (tgt := 143) hx hb dX4_find_139 (by decide) ?_
                        refine lv_iload_n hx hb dX4_find_143 rfl (lv_at hl 7 rfl) ?_
                        refine lb_if_eq (tgt := 163) hx hb dX4_find_144 (by decide) (fun c => absurd c (by decide)) (fun _ => ?_)
                        refine lv_aload_n hx hb dX4_find_147 rfl (lv_at hl 4 rfl) ?_
                        refine va_get (D := D) (ci := 4) (v := .ref (ad 3)) (C := RX4) (T := TX4) (N := 8) hx hb hts ni4 hown hK hP 11 (cw_c11 cy ad aw σ (ju_tl (ju_hd (ju_wa (ju_cb (ju_co (ju_fc (ju_fi J (nf fi_)) (nf fc_)) (nf (z_co Zf))) (nf (z_cb Zf))) (nf (z_wa Zf))) (nf (z_hd Zf))) (nf (z_tl Zf)))) rfl 0 (by decide) (hts _ flX4_33) (fun _ h => h) rfl dX4_find_148 ?_
                        refine va_get (D := D) (ci := 3) (v := .ref (ad 5)) (C := RX3) (T := TX3) (N := 9) hx hb hts ni3 hown hK hP 3 (cw_c3 cy ad aw σ (ju_tl (ju_hd (ju_wa (ju_cb (ju_co (ju_fc (ju_fi J (nf fi_)) (nf fc_)) (nf (z_co Zf))) (nf (z_cb Zf))) (nf (z_wa Zf))) (nf (z_hd Zf))) (nf (z_tl Zf)))) rfl 1 (by decide) (hts _ flX4_71) (fun _ h => h) rfl dX4_find_151 ?_
                        refine lv_iload hx hb dX4_find_154 (lv_at hl 0 rfl) ?_
                        refine ln_aald (x := ad (29 + f)) hx hb hK hP 5 2 (cw_c5 cy ad aw σ (ju_tl (ju_hd (ju_wa (ju_cb (ju_co (ju_fc (ju_fi J (nf fi_)) (nf fc_)) (nf (z_co Zf))) (nf (z_cb Zf))) (nf (z_wa Zf))) (nf (z_hd Zf))) (nf (z_tl Zf)))) rfl (by omega) (by decide) rfl dX4_find_156 ?_
                        have hfk := hw.2.2.2.1 f (by omega)
                        refine va_get (D := D) (ci := 0) (v := .int (nI (s_fe σ (5 * f + 4)))) (C := RX0) (T := TX0) (N := 5) hx hb hts ni0 hown hK hP (29 + f) (cw_ferry cy ad aw σ (ju_tl (ju_hd (ju_wa (ju_cb (ju_co (ju_fc (ju_fi J (nf fi_)) (nf fc_)) (nf (z_co Zf))) (nf (z_cb Zf))) (nf (z_wa Zf))) (nf (z_hd Zf))) (nf (z_tl Zf))) (t := f) (by omega)) rfl 4 (by decide) (hts _ flX4_75) (fun _ h => h) rfl dX4_find_157 ?_
                        refine lv_goto (tgt := 164) hx hb dX4_find_160 (by decide) ?_
                        refine ln_nat (show s_fe σ (5 * f + 4) = mi σ f from rfl) ?_
                        refine cr_vv (n := 4) (As := [.int (nI ((z_wa Z (z_hd Z qq)) % 256 + 256 * ((z_wa Z (z_hd Z qq)) / 256))), .int (nI (f)), .int (nI (f)), .int (nI (mi σ f))]) (rest := []) ⟨hx, hb, hml, hown, hts⟩ (k_X4_spread l D cy ad aw σ J fi_ fc_ Zf ((z_wa Z (z_hd Z qq)) % 256) ((z_wa Z (z_hd Z qq)) / 256) f f (mi σ f) hw hsm (by omega) (by omega) (by omega) (mi_le hw (by omega)) (fI_ok hw hIf).1 (by rw [Nat.mod_add_div]; exact (fI_ok hw hIf).2) (hft.1 f (by omega)).1 (hft.1 f (by omega)).2) gvX4_80 (by decide +kernel) ⟨Nat.le_of_ble_eq_true rfl, Nat.le_of_ble_eq_true rfl⟩ hK hN hP hD hS hA 11 (cw_c11 cy ad aw σ (ju_tl (ju_hd (ju_wa (ju_cb (ju_co (ju_fc (ju_fi J (nf fi_)) (nf fc_)) (nf (z_co Zf))) (nf (z_cb Zf))) (nf (z_wa Zf))) (nf (z_hd Zf))) (nf (z_tl Zf)))) rfl rfl hl.1 rfl (Nat.le_of_ble_eq_true rfl) dX4_find_164 ⟨Nat.zero_le _, Nat.zero_le _⟩ (fun _ => (cw_ad _ _ _ _ _).trans (cw_ad _ _ _ _ _).symm) (fun u3 H locs hpu3 hP hD hS => ?_)
                        have hP : va_P D vwCl (cw cy ad aw σ (ju_tl (ju_hd (ju_wa (ju_cb (ju_co (ju_fc (ju_fi J (nf fi_)) (nf fc_)) (nf (z_co (spX σ ((z_wa Z (z_hd Z qq)) % 256 + 256 * ((z_wa Z (z_hd Z qq)) / 256)) f f (mi σ f) Zf (2 ^ s_n σ))))) (nf (z_cb (spX σ ((z_wa Z (z_hd Z qq)) % 256 + 256 * ((z_wa Z (z_hd Z qq)) / 256)) f f (mi σ f) Zf (2 ^ s_n σ))))) (nf (z_wa (spX σ ((z_wa Z (z_hd Z qq)) % 256 + 256 * ((z_wa Z (z_hd Z qq)) / 256)) f f (mi σ f) Zf (2 ^ s_n σ))))) (nf (z_hd (spX σ ((z_wa Z (z_hd Z qq)) % 256 + 256 * ((z_wa Z (z_hd Z qq)) / 256)) f f (mi σ f) Zf (2 ^ s_n σ))))) (nf (z_tl (spX σ ((z_wa Z (z_hd Z qq)) % 256 + 256 * ((z_wa Z (z_hd Z qq)) / 256)) f f (mi σ f) Zf (2 ^ s_n σ)))))) H := hP
                        have hD : va_D A (cw cy ad aw σ (ju_tl (ju_hd (ju_wa (ju_cb (ju_co (ju_fc (ju_fi J (nf fi_)) (nf fc_)) (nf (z_co (spX σ ((z_wa Z (z_hd Z qq)) % 256 + 256 * ((z_wa Z (z_hd Z qq)) / 256)) f f (mi σ f) Zf (2 ^ s_n σ))))) (nf (z_cb (spX σ ((z_wa Z (z_hd Z qq)) % 256 + 256 * ((z_wa Z (z_hd Z qq)) / 256)) f f (mi σ f) Zf (2 ^ s_n σ))))) (nf (z_wa (spX σ ((z_wa Z (z_hd Z qq)) % 256 + 256 * ((z_wa Z (z_hd Z qq)) / 256)) f f (mi σ f) Zf (2 ^ s_n σ))))) (nf (z_hd (spX σ ((z_wa Z (z_hd Z qq)) % 256 + 256 * ((z_wa Z (z_hd Z qq)) / 256)) f f (mi σ f) Zf (2 ^ s_n σ))))) (nf (z_tl (spX σ ((z_wa Z (z_hd Z qq)) % 256 + 256 * ((z_wa Z (z_hd Z qq)) / 256)) f f (mi σ f) Zf (2 ^ s_n σ)))))) := hD
                        refine ln_iinc (lv' := [(7, .int (nI (f + 1))), (6, .int (nI ((z_wa Z (z_hd Z qq)) % 256 + 256 * ((z_wa Z (z_hd Z qq)) / 256)))), (5, .int (nI (qq))), (4, .int (nI (i))), (0, .ref (ad 11)), (1, .int (nI (sn))), (2, .int (nI (bk))), (3, .int (bI (true)))]) hx hb dX4_find_167 hl (k := 0) (n := 1) rfl (by decide) rfl (fun ls hl => ?_)
                        refine lv_goto (tgt := 116) hx hb dX4_find_170 (by decide) ?_
                        have hl : lv_has ls 8 [(7, .int (nI (f + 1))), (6, .int (nI ((z_wa Z (z_hd Z qq)) % 256 + 256 * ((z_wa Z (z_hd Z qq)) / 256)))), (5, .int (nI (qq))), (4, .int (nI (i))), (0, .ref (ad 11)), (1, .int (nI (sn))), (2, .int (nI (bk))), (3, .int (bI (true)))] := lv_sub hl [0, 1, 2, 3, 4, 5, 6, 7] rfl
                        exact ih_lf (f + 1) ls _ _ _ (by omega) (by rw [Nat.mod_add_div]; exact fI_step hw hIf (by omega)) (by rw [zSum_sp]; exact hsf) hP hD hS hl
                  have hl : lv_has ls 8 [(7, .int (nI (0))), (6, .int (nI ((z_wa Z (z_hd Z qq)) % 256 + 256 * ((z_wa Z (z_hd Z qq)) / 256)))), (5, .int (nI (qq))), (4, .int (nI (i))), (0, .ref (ad 11)), (1, .int (nI (sn))), (2, .int (nI (bk))), (3, .int (bI (true)))] := lv_sub hl [0, 1, 2, 3, 4, 5, 6, 7] rfl
                  exact lf (s_m σ - 0) 0 ls _ _ _ (by omega) hI1 (by omega) hP hD hS hl
                · refine lv_iload hx hb dX4_find_110 (lv_at hl 0 rfl) ?_
                  exact rw_i hx hb hr hlocks hS (ju_tl (ju_hd (ju_wa (ju_cb (ju_co (ju_fc (ju_fi J (nf fi_)) (nf fc_)) (nf (z_co (zHd Z qq (z_hd Z qq + 1))))) (nf (z_cb (zHd Z qq (z_hd Z qq + 1))))) (nf (z_wa (zHd Z qq (z_hd Z qq + 1))))) (nf (z_hd (zHd Z qq (z_hd Z qq + 1))))) (nf (z_tl (zHd Z qq (z_hd Z qq + 1))))) (⟨⟨some (z_wa Z (z_hd Z qq)), by rw [Nat.mod_add_div]; rfl, fun v h => by cases h; exact hsv, by show isSoon _ _ (j_co _ _); rw [wz_soon]; exact q_found hw hI hqq (by rw [goalN, and_255]; exact c107)⟩, wfJ_se hj _ _ _ _ _ _ _⟩) hP dX4_find_112
        have hl : lv_has ls 8 [(4, .int (nI (0))), (0, .ref (ad 11)), (1, .int (nI (sn))), (2, .int (nI (bk))), (3, .int (bI (true)))] := lv_sub hl [0, 1, 2, 3, 4] rfl
        exact lp (6144 - 0) 0 ls _ _ _ (by omega) ⟨_, _, _, q_start hw _ hz1 hz2 hz3 hz4⟩ (by unfold zSum; rw [rcF_hd, hz2.2, hz3.1, hz4.1]) hP hD hS hl
      · exact absurd c16 (by omega)
    | succ k_l0 ih_l0 =>
      intro f ls H locs fi_ fc_ hi_l0 hft hP hD hS hl
      refine lv_iload hx hb dX4_find_7 (lv_at hl 0 rfl) ?_
      refine lv_aload_n hx hb dX4_find_9 rfl (lv_at hl 1 rfl) ?_
      refine va_get (D := D) (ci := 4) (v := .ref (ad 3)) (C := RX4) (T := TX4) (N := 8) hx hb hts ni4 hown hK hP 11 (cw_c11 cy ad aw σ (ju_tl (ju_hd (ju_wa (ju_cb (ju_co (ju_fc (ju_fi J (nf fi_)) (nf fc_)) (nf (z_co Z0))) (nf (z_cb Z0))) (nf (z_wa Z0))) (nf (z_hd Z0))) (nf (z_tl Z0)))) rfl 0 (by decide) (hts _ flX4_33) (fun _ h => h) rfl dX4_find_10 ?_
      refine va_get (D := D) (ci := 3) (v := .int (nI (s_m σ))) (C := RX3) (T := TX3) (N := 9) hx hb hts ni3 hown hK hP 3 (cw_c3 cy ad aw σ (ju_tl (ju_hd (ju_wa (ju_cb (ju_co (ju_fc (ju_fi J (nf fi_)) (nf fc_)) (nf (z_co Z0))) (nf (z_cb Z0))) (nf (z_wa Z0))) (nf (z_hd Z0))) (nf (z_tl Z0)))) rfl 4 (by decide) (hts _ flX4_40) (fun _ h => h) rfl dX4_find_13 ?_
      refine ln_icmp_ge (tgt := 31) hx hb dX4_find_16 (by decide) (by omega) (by omega) (fun c16 => ?_) (fun c16 => ?_)
      · exact absurd c16 (by omega)
      · refine lv_aload_n hx hb dX4_find_19 rfl (lv_at hl 1 rfl) ?_
        refine lv_iload hx hb dX4_find_20 (lv_at hl 0 rfl) ?_
        refine cr_vv (n := 1) (As := [.int (nI (f))]) (rest := []) ⟨hx, hb, hml, hown, hts⟩ (k_X4_listFits l D cy ad aw σ J fi_ fc_ (z_co Z0) (z_cb Z0) (z_wa Z0) (z_hd Z0) (z_tl Z0) f hw hj (by omega) (hft.2 f (Nat.le_refl _) (by omega))) gvX4_46 (by decide +kernel) ⟨Nat.le_of_ble_eq_true rfl, Nat.le_of_ble_eq_true rfl⟩ hK hN hP hD hS hA 11 (cw_c11 cy ad aw σ (ju_tl (ju_hd (ju_wa (ju_cb (ju_co (ju_fc (ju_fi J (nf fi_)) (nf fc_)) (nf (z_co Z0))) (nf (z_cb Z0))) (nf (z_wa Z0))) (nf (z_hd Z0))) (nf (z_tl Z0)))) rfl rfl hl.1 rfl (Nat.le_of_ble_eq_true rfl) dX4_find_22 ⟨Nat.zero_le _, Nat.zero_le _⟩ (fun _ => (cw_ad _ _ _ _ _).trans (cw_ad _ _ _ _ _).symm) (fun u4 H locs hpu4 hP hD hS => ?_)
        have hP : va_P D vwCl (cw cy ad aw σ (ju_tl (ju_hd (ju_wa (ju_cb (ju_co (ju_fc (ju_fi J (nf u4)) (nf (updN fc_ f (cntN (isRS σ f) (2 ^ s_n σ))))) (nf (z_co Z0))) (nf (z_cb Z0))) (nf (z_wa Z0))) (nf (z_hd Z0))) (nf (z_tl Z0)))) H := hP
        have hD : va_D A (cw cy ad aw σ (ju_tl (ju_hd (ju_wa (ju_cb (ju_co (ju_fc (ju_fi J (nf u4)) (nf (updN fc_ f (cntN (isRS σ f) (2 ^ s_n σ))))) (nf (z_co Z0))) (nf (z_cb Z0))) (nf (z_wa Z0))) (nf (z_hd Z0))) (nf (z_tl Z0)))) := hD
        have hplf := hpu4
        refine ln_iinc (lv' := [(4, .int (nI (f + 1))), (0, .ref (ad 11)), (1, .int (nI (sn))), (2, .int (nI (bk))), (3, .int (bI (true)))]) hx hb dX4_find_25 hl (k := 0) (n := 1) rfl (by decide) rfl (fun ls hl => ?_)
        refine lv_goto (tgt := 7) hx hb dX4_find_28 (by decide) ?_
        have hl : lv_has ls 8 [(4, .int (nI (f + 1))), (0, .ref (ad 11)), (1, .int (nI (sn))), (2, .int (nI (bk))), (3, .int (bI (true)))] := lv_sub hl [0, 1, 2, 3, 4] rfl
        exact ih_l0 (f + 1) ls _ _ _ _ (by omega) (ftAll_s hft hp8 hplf.1 hplf.2) hP hD hS hl
  have hl : lv_has ls 8 [(4, .int (nI (0))), (0, .ref (ad 11)), (1, .int (nI (sn))), (2, .int (nI (bk))), (3, .int (bI (true)))] := lv_sub hl [0, 1, 2, 3, 4] rfl
  exact l0 (s_m σ - 0) 0 ls _ _ fi fd (by omega) hft0 hP hD hS hl
set_option maxHeartbeats 4000000 in
set_option maxRecDepth 100000 in
theorem k_X10_soonest (l : Launch) (D : va_G) (cy : Nat → ClassId) (ad aw : Nat → Nat) (σ : Sg) (J : Js) (sn bk : Int32) (hw : wfS σ) (hj : wfJ σ J) : MW l yX10_soonest qX10_soonest 6 [.ref (ad 0), .int (sn), .int (bk)] D cy (cw cy ad aw σ J) (fun (r : Int32) (u : Js) => a_soonI σ sn bk r ∧ wfJ σ u) (fun u : Js => cw cy ad aw (σ) u) := by
  intro sz
  refine Met.ofW (cc := cX10_soonest) (maxL := 3) (ret := (some .int)) (by decide) rfl ?_
  intro p e s m args below meth c s₁ B hml hv
  obtain ⟨rfl, rfl, hP, hK, hN, hD0⟩ := hv
  have hx := B.exec
  have hb := B.bytes
  have hr := B.returns
  have hlocks := B.notSynchronized
  have hts : ∀ cq ∈ tg, cq.before ([.ref (ad 0), .int (sn), .int (bk)] : List Value).toArray s = true := fun cq h => atoms_spec (ws := qX10_soonest) B.pre cq (List.mem_cons_of_mem _ h)
  have hown : s.vm.findClass RX10 = some m.cls := findClass_of_methodNamed B.named
  have hD := hD0.self (sz := s.heap.size)
  generalize hAe : va_A (cw cy ad aw σ J) s.heap.size = A at hD ⊢
  have hA : ∀ q : Nat, s.heap.size ≤ q → A q := fun q h => by rw [← hAe]; exact Or.inr h
  have hS : va_S A s.heap s.heap [] := va_S.rf
  have hl := lv_entry ([.ref (ad 0), .int (sn), .int (bk)]) (n := 3) (Nat.le_of_ble_eq_true rfl)
  rw [lg_entry_eq]
  generalize (lg_sl ([.ref (ad 0), .int (sn), .int (bk)]) ++ List.replicate (3 - (lg_sl ([.ref (ad 0), .int (sn), .int (bk)])).length) Slot.unset).toArray = ls at hl ⊢
  have hl : lv_has ls 3 [(0, .ref (ad 0)), (1, .int (sn)), (2, .int (bk))] := hl
  have hw1 := hw.1
  have hw2 := hw.2.1
  have hp8 := pw_8 hw1
  have hpp := pw_pos (s_n σ)
  have hov := ov_lt hw
  have hmo := mo_lt hw
  have hof := of_lt hw
  refine lv_aload_n hx hb dX10_soonest_0 rfl (lv_at hl 0 rfl) ?_
  refine va_get (D := D) (ci := 9) (v := .ref (ad 3)) (C := RX10) (T := TX10) (N := 8) hx hb hts ni10 hown hK hP 0 (cw_c0 cy ad aw σ J) rfl 1 (by decide) (hts _ flX10_19) (fun _ h => h) rfl dX10_soonest_1 ?_
  refine lv_iload_n hx hb dX10_soonest_4 rfl (lv_at hl 1 rfl) ?_
  refine cr_v (n := 1) (As := [.int (sn)]) (rest := []) ⟨hx, hb, hml, hown, hts⟩ (k_X3_hasAll l D cy ad aw σ J (sn) hw) gvX10_172 (by decide +kernel) ⟨Nat.le_of_ble_eq_true rfl, Nat.le_of_ble_eq_true rfl⟩ hK hN hP 3 (cw_c3 cy ad aw σ J) rfl rfl hl.1 rfl (Nat.le_of_ble_eq_true rfl) dX10_soonest_5 ⟨Nat.zero_le _, Nat.zero_le _⟩ ?_
  refine lb_if_eq (tgt := 18) hx hb dX10_soonest_8 (by decide) (fun c8 => ?_) (fun c8 => ?_)
  · refine lv_bipush (v := -2) hx hb dX10_soonest_18 (by decide) ?_
    exact rw_i hx hb hr hlocks hS J (⟨by first | (rw [a_soonI, if_pos (by rw [c8]; rfl)]; done) | (rw [a_soonI, if_pos (by rw [c8, c15]; rfl)]), hj⟩) hP dX10_soonest_20
  · refine lv_iload_n hx hb dX10_soonest_11 rfl (lv_at hl 2 rfl) ?_
    refine cr_s (n := 1) (As := [.int (bk)]) (rest := []) ⟨hx, hb, hml, hown, hts⟩ (k_X10_isBank l (bk)) gsX10_218 (by decide +kernel) ⟨Nat.le_of_ble_eq_true rfl, Nat.le_of_ble_eq_true rfl⟩ rfl hl.1 rfl (Nat.le_of_ble_eq_true rfl) dX10_soonest_12 ⟨Nat.zero_le _, Nat.zero_le _⟩ ?_
    refine lb_if_ne (tgt := 21) hx hb dX10_soonest_15 (by decide) (fun c15 => ?_) (fun c15 => ?_)
    · obtain ⟨sn0, hsn, rfl⟩ := ix_of c8 (by omega)
      have hl : lv_has ls 3 [(0, .ref (ad 0)), (1, .int (nI (sn0))), (2, .int (bk))] := hl
      obtain ⟨b0, hb0, rfl⟩ := ix_of c15 (by omega)
      have hl : lv_has ls 3 [(0, .ref (ad 0)), (1, .int (nI (sn0))), (2, .int (nI (b0)))] := hl
      refine lv_aload_n hx hb dX10_soonest_21 rfl (lv_at hl 0 rfl) ?_
      refine va_get (D := D) (ci := 9) (v := .ref (ad 11)) (C := RX10) (T := TX10) (N := 8) hx hb hts ni10 hown hK hP 0 (cw_c0 cy ad aw σ J) rfl 4 (by decide) (hts _ flX10_44) (fun _ h => h) rfl dX10_soonest_22 ?_
      refine lv_aload_n hx hb dX10_soonest_25 rfl (lv_at hl 0 rfl) ?_
      refine va_get (D := D) (ci := 9) (v := .ref (ad 11)) (C := RX10) (T := TX10) (N := 8) hx hb hts ni10 hown hK hP 0 (cw_c0 cy ad aw σ J) rfl 4 (by decide) (hts _ flX10_44) (fun _ h => h) rfl dX10_soonest_26 ?_
      refine lv_iload_n hx hb dX10_soonest_29 rfl (lv_at hl 1 rfl) ?_
      refine lv_iload_n hx hb dX10_soonest_30 rfl (lv_at hl 2 rfl) ?_
      refine lv_iconst (v := nI 1) hx hb dX10_soonest_31 (by decide) ?_
      refine ln_eq (show (nI (1)) = (bI (true)) from rfl) ?_
      refine cr_w (n := 3) (As := [.int (nI (sn0)), .int (nI (b0)), .int (bI (true))]) (rest := [.ref (ad 11)]) ⟨hx, hb, hml, hown, hts⟩ (k_find_soon l D cy ad aw σ J sn0 b0 hw hj (by omega) (by omega)) gvX10_248 (by decide +kernel) ⟨Nat.le_of_ble_eq_true rfl, Nat.le_of_ble_eq_true rfl⟩ hK hN hP hD hS hA 11 (cw_c11 cy ad aw σ J) rfl rfl hl.1 rfl (Nat.le_of_ble_eq_true rfl) dX10_soonest_32 ⟨Nat.zero_le _, Nat.zero_le _⟩ (fun _ => (cw_ad _ _ _ _ _).trans (cw_ad _ _ _ _ _).symm) (fun r2 u1 H locs hpu1 hP hD hS => ?_)
      obtain ⟨⟨g, hr1, hg, hso⟩, hju⟩ := hpu1
      rw [hr1]
      have hP : va_P D vwCl (cw cy ad aw σ u1) H := hP
      have hD : va_D A (cw cy ad aw σ u1) := hD
      refine cr_v (n := 1) (As := [.int (oI (g))]) (rest := []) ⟨hx, hb, hml, hown, hts⟩ (k_X4_costOf l D cy ad aw σ u1 g hg) gvX10_252 (by decide +kernel) ⟨Nat.le_of_ble_eq_true rfl, Nat.le_of_ble_eq_true rfl⟩ hK hN hP 11 (cw_c11 cy ad aw σ u1) rfl rfl hl.1 rfl (Nat.le_of_ble_eq_true rfl) dX10_soonest_35 ⟨Nat.zero_le _, Nat.zero_le _⟩ ?_
      exact rw_i hx hb hr hlocks hS u1 (⟨by rw [a_soonI, if_neg (by rw [c8, c15]; decide), tk_nI (k := sn0) (by omega), tk_nI (k := b0) (by omega)]; exact hso, hju⟩) hP dX10_soonest_38
    · refine lv_bipush (v := -2) hx hb dX10_soonest_18 (by decide) ?_
      exact rw_i hx hb hr hlocks hS J (⟨by first | (rw [a_soonI, if_pos (by rw [c8]; rfl)]; done) | (rw [a_soonI, if_pos (by rw [c8, c15]; rfl)]), hj⟩) hP dX10_soonest_20
