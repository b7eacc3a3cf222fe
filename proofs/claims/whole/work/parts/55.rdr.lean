section LX
variable {p : Program} {l : Launch} {e : Env} {R : Room} {s : State} {m : MethodId} {args : Array Value} {below : List Frame} {meth : Method} {c : Code} {H : Heap} {locs : List Loc} {cells slots : Nat} {Q : State → Prop} {pc : Nat} {ls : Array Slot} {rest : List Value}
theorem lx_eq {v w : Value} (h : v = w) (k : W p l e R s m args below meth c H locs cells slots Q (F0 m pc ls (w :: rest))) : W p l e R s m args below meth c H locs cells slots Q (F0 m pc ls (v :: rest)) := by rw [h]; exact k
end LX
/-- what the river keeps of its own -/
def kpJ (J u : Js) : Prop := j_pe u = j_pe J ∧ j_wh u = j_wh J ∧ j_us u = j_us J ∧ j_pb u = j_pb J
theorem kpJ.trans {J V u : Js} (h1 : kpJ J V) (h2 : kpJ V u) : kpJ J u := ⟨h2.1.trans h1.1, h2.2.1.trans h1.2.1, h2.2.2.1.trans h1.2.2.1, h2.2.2.2.trans h1.2.2.2⟩
theorem kpJ.wf {σ : Sg} {J u : Js} (h : kpJ J u) (hj : wfJ σ J) : wfJ σ u := by
  obtain ⟨h1, h2, h3, h4⟩ := h
  unfold wfJ
  rw [h1, h2, h3, h4]
  exact hj
/-- a line that the reader holds -/
def LJ (u : Js) (t : Nat) (x : Nat × List Nat) : Prop := j_lw u t = some (ow x.1) ∧ ∀ i v, x.2[i]? = some v → j_nb u t i = nI v
def oth (J u : Js) (t : Nat) : Prop := ∀ t', t' ≠ t → j_lw u t' = j_lw J t' ∧ j_nb u t' = j_nb J t'
def RLP (σ τ : Sg) (o t : Nat) (J : Js) (r : Int32) (u : Js) : Prop := kpJ J u ∧ match rLine σ τ o with
  | .inl f => r = bI false ∧ j_fa u = nI f
  | .inr x => r = bI true ∧ j_en u = nI x.1 ∧ RTc (doL τ x.2.1 x.2.2) u ∧ j_lc u = nI (t + 1) ∧ j_fa u = j_fa J ∧ LJ u t x.2 ∧ oth J u t
def RLI (τ : Sg) (t i o : Nat) (xs : List Nat) (J V : Js) : Prop := kpJ J V ∧ j_en V = nI o ∧ RTc τ V ∧ j_lc V = nI t ∧ j_fa V = j_fa J ∧ j_lw V t = some i ∧ (∀ x v, xs[x]? = some v → j_nb V t x = nI v) ∧ oth J V t
def glL (k : Nat) (xs : List Nat) : Sum Nat (Nat × List Nat) → Sum Nat (Nat × Nat × List Nat)
  | .inl f => .inl f
  | .inr r => .inr (r.1, k, xs ++ r.2)
theorem glL_cons (k : Nat) (xs : List Nat) (v : Nat) (y : Sum Nat (Nat × List Nat)) : glL k xs (match y with | .inl f => .inl f | .inr r => .inr (r.1, v :: r.2)) = glL k (xs ++ [v]) y := by
  cases y with
  | inl f => rfl
  | inr r => show Sum.inr (r.1, k, xs ++ (v :: r.2)) = Sum.inr (r.1, k, xs ++ [v] ++ r.2); rw [List.append_assoc]; rfl
theorem glL_0 {σ τ : Sg} {o i : Nat} (h1 : wdN (tC σ o) = wo i) (hi : i < 11) (h2 : tooM τ (wo i) = false) : rLine σ τ o = glL (wo i) [] (rNum σ ((slo τ (wo i)).drop 0) (tE σ o)) := by
  have h3 := w_wo i hi
  rw [rLine, h1, if_neg (fun z => by rcases z with z | z; · omega
                                     · rw [h2] at z; cases z)]
  rw [List.drop_zero]
  cases rNum σ (slo τ (wo i)) (tE σ o) <;> rfl
theorem w_ow2 {i : Nat} (h : i < 11) : ow (wo i) = i := by
  have hh : ∀ i, i < 11 → ow (wo i) = i := by decide
  exact hh i h
theorem RLP_f {σ τ : Sg} {o t f : Nat} {J u : Js} (hL : rLine σ τ o = .inl f) (hk : kpJ J u) (hf : j_fa u = nI f) : RLP σ τ o t J (bI false) u := by rw [RLP, hL]; exact ⟨hk, rfl, hf⟩
theorem kp_tk {σ : Sg} {o : Nat} {J V : Js} (h : kpJ J V) : kpJ J (tkJ σ o V) := by
  unfold kpJ at h ⊢
  dsimp only [tkJ, jr_lw_be, jr_lw_en, jr_lw_so, jr_nb_be, jr_nb_en, jr_nb_so, jr_lc_be, jr_lc_en, jr_lc_so, jr_fa_be, jr_fa_en, jr_fa_so, jr_be_be, jr_be_en, jr_be_so, jr_en_be, jr_en_en, jr_en_so, jr_so_be, jr_so_en, jr_so_so, jr_rt_be, jr_rt_en, jr_rt_so, jr_rh_be, jr_rh_en, jr_rh_so, jr_rf_be, jr_rf_en, jr_rf_so, jr_pe_be, jr_pe_en, jr_pe_so, jr_wh_be, jr_wh_en, jr_wh_so, jr_us_be, jr_us_en, jr_us_so, jr_pb_be, jr_pb_en, jr_pb_so]
  exact h
theorem RT_tk {σ τ : Sg} {o : Nat} {V : Js} (h : RTc τ V) : RTc τ (ju_so (ju_en (ju_be V (nI (tB σ o))) (nI (tE σ o))) (nI (tK σ o))) := by
  unfold RTc at h ⊢
  dsimp only [jr_lw_be, jr_lw_en, jr_lw_so, jr_nb_be, jr_nb_en, jr_nb_so, jr_lc_be, jr_lc_en, jr_lc_so, jr_fa_be, jr_fa_en, jr_fa_so, jr_be_be, jr_be_en, jr_be_so, jr_en_be, jr_en_en, jr_en_so, jr_so_be, jr_so_en, jr_so_so, jr_rt_be, jr_rt_en, jr_rt_so, jr_rh_be, jr_rh_en, jr_rh_so, jr_rf_be, jr_rf_en, jr_rf_so, jr_pe_be, jr_pe_en, jr_pe_so, jr_wh_be, jr_wh_en, jr_wh_so, jr_us_be, jr_us_en, jr_us_so, jr_pb_be, jr_pb_en, jr_pb_so]
  exact h
theorem RT_lc {τ : Sg} {V : Js} {x : Int32} (h : RTc τ V) : RTc τ (ju_lc V x) := by
  unfold RTc at h ⊢
  dsimp only [jr_lw_lc, jr_nb_lc, jr_lc_lc, jr_fa_lc, jr_be_lc, jr_en_lc, jr_so_lc, jr_rt_lc, jr_rh_lc, jr_rf_lc, jr_pe_lc, jr_wh_lc, jr_us_lc, jr_pb_lc]
  exact h
theorem tk_r {σ : Sg} {o : Nat} {V : Js} : j_fa (tkJ σ o V) = j_fa V ∧ j_lc (tkJ σ o V) = j_lc V ∧ j_en (tkJ σ o V) = nI (tE σ o) ∧ j_lw (tkJ σ o V) = j_lw V ∧ j_nb (tkJ σ o V) = j_nb V := by
  dsimp only [tkJ, jr_lw_be, jr_lw_en, jr_lw_so, jr_nb_be, jr_nb_en, jr_nb_so, jr_lc_be, jr_lc_en, jr_lc_so, jr_fa_be, jr_fa_en, jr_fa_so, jr_be_be, jr_be_en, jr_be_so, jr_en_be, jr_en_en, jr_en_so, jr_so_be, jr_so_en, jr_so_so, jr_rt_be, jr_rt_en, jr_rt_so, jr_rh_be, jr_rh_en, jr_rh_so, jr_rf_be, jr_rf_en, jr_rf_so, jr_pe_be, jr_pe_en, jr_pe_so, jr_wh_be, jr_wh_en, jr_wh_so, jr_us_be, jr_us_en, jr_us_so, jr_pb_be, jr_pb_en, jr_pb_so]
  exact ⟨rfl, rfl, rfl, rfl, rfl⟩
theorem RTc.tk {σ τ : Sg} {o : Nat} {V : Js} (h : RTc τ V) : RTc τ (tkJ σ o V) := RT_tk h
theorem LJ_tk {σ : Sg} {o t : Nat} {x : Nat × List Nat} {V : Js} (h : LJ V t x) : LJ (tkJ σ o V) t x := by
  unfold LJ at h ⊢
  rw [tk_r.2.2.2.1, tk_r.2.2.2.2]
  exact h
theorem kp_fh {σ : Sg} {o : Nat} {J V : Js} {x : Int32} (h : kpJ J V) : kpJ J (ju_fa (ju_so (ju_en (ju_be V (nI (tB σ o))) (nI (tE σ o))) (nI (tK σ o))) x) := by
  unfold kpJ at h ⊢
  dsimp only [jr_lw_be, jr_lw_en, jr_lw_so, jr_lw_fa, jr_nb_be, jr_nb_en, jr_nb_so, jr_nb_fa, jr_lc_be, jr_lc_en, jr_lc_so, jr_lc_fa, jr_fa_be, jr_fa_en, jr_fa_so, jr_fa_fa, jr_be_be, jr_be_en, jr_be_so, jr_be_fa, jr_en_be, jr_en_en, jr_en_so, jr_en_fa, jr_so_be, jr_so_en, jr_so_so, jr_so_fa, jr_rt_be, jr_rt_en, jr_rt_so, jr_rt_fa, jr_rh_be, jr_rh_en, jr_rh_so, jr_rh_fa, jr_rf_be, jr_rf_en, jr_rf_so, jr_rf_fa, jr_pe_be, jr_pe_en, jr_pe_so, jr_pe_fa, jr_wh_be, jr_wh_en, jr_wh_so, jr_wh_fa, jr_us_be, jr_us_en, jr_us_so, jr_us_fa, jr_pb_be, jr_pb_en, jr_pb_so, jr_pb_fa]
  exact h
theorem fa_r {V : Js} {x : Int32} : j_fa (ju_fa V x) = x := rfl
theorem kpJ.rf (J : Js) : kpJ J J := ⟨rfl, rfl, rfl, rfl⟩
theorem RLP_t {σ τ : Sg} {o t i o1 : Nat} {xs : List Nat} {J V : Js} (hi : i < 11) (hV : RLI τ t i o1 xs J V) (hL : rLine σ τ o = .inr (o1, wo i, xs)) : RLP σ τ o t J (bI true) (fsJ (doL τ (wo i) xs) (ju_lc V (nI (t + 1)))) := by
  obtain ⟨h1, h2, h3, h4, h5, h6, h7, h8⟩ := hV
  have e0 := RTc.fs (doL τ (wo i) xs) (ju_lc V (nI (t + 1)))
  have e : j_en (fsJ (doL τ (wo i) xs) (ju_lc V (nI (t + 1)))) = j_en V ∧ j_lc (fsJ (doL τ (wo i) xs) (ju_lc V (nI (t + 1)))) = nI (t + 1) ∧ j_fa (fsJ (doL τ (wo i) xs) (ju_lc V (nI (t + 1)))) = j_fa V ∧ j_lw (fsJ (doL τ (wo i) xs) (ju_lc V (nI (t + 1)))) = j_lw V ∧ j_nb (fsJ (doL τ (wo i) xs) (ju_lc V (nI (t + 1)))) = j_nb V ∧ j_pe (fsJ (doL τ (wo i) xs) (ju_lc V (nI (t + 1)))) = j_pe V ∧ j_wh (fsJ (doL τ (wo i) xs) (ju_lc V (nI (t + 1)))) = j_wh V ∧ j_us (fsJ (doL τ (wo i) xs) (ju_lc V (nI (t + 1)))) = j_us V ∧ j_pb (fsJ (doL τ (wo i) xs) (ju_lc V (nI (t + 1)))) = j_pb V := by
    dsimp only [fsJ, jr_lw_rt, jr_lw_rh, jr_lw_rf, jr_lw_lc, jr_nb_rt, jr_nb_rh, jr_nb_rf, jr_nb_lc, jr_lc_rt, jr_lc_rh, jr_lc_rf, jr_lc_lc, jr_fa_rt, jr_fa_rh, jr_fa_rf, jr_fa_lc, jr_be_rt, jr_be_rh, jr_be_rf, jr_be_lc, jr_en_rt, jr_en_rh, jr_en_rf, jr_en_lc, jr_so_rt, jr_so_rh, jr_so_rf, jr_so_lc, jr_rt_rt, jr_rt_rh, jr_rt_rf, jr_rt_lc, jr_rh_rt, jr_rh_rh, jr_rh_rf, jr_rh_lc, jr_rf_rt, jr_rf_rh, jr_rf_rf, jr_rf_lc, jr_pe_rt, jr_pe_rh, jr_pe_rf, jr_pe_lc, jr_wh_rt, jr_wh_rh, jr_wh_rf, jr_wh_lc, jr_us_rt, jr_us_rh, jr_us_rf, jr_us_lc, jr_pb_rt, jr_pb_rh, jr_pb_rf, jr_pb_lc]
    exact ⟨rfl, rfl, rfl, rfl, rfl, rfl, rfl, rfl, rfl⟩
  generalize fsJ (doL τ (wo i) xs) (ju_lc V (nI (t + 1))) = u at e e0
  obtain ⟨e1, e2, e3, e4, e5, e6, e7, e8, e9⟩ := e
  rw [RLP, hL]
  refine ⟨⟨e6.trans h1.1, e7.trans h1.2.1, e8.trans h1.2.2.1, e9.trans h1.2.2.2⟩, rfl, e1.trans h2, e0, e2, e3.trans h5, ⟨?_, fun x v h => ?_⟩, fun t' ht => ?_⟩
  · show j_lw u t = some (ow (wo i)); rw [w_ow2 hi, e4]; exact h6
  · rw [e5]; exact h7 x v h
  · rw [e4, e5]; exact h8 t' ht
theorem RLI_0 {σ τ : Sg} {t i o : Nat} {J : Js} (hR : RTc τ J) (hlc : j_lc J = nI t) : RLI τ t i (tE σ o) [] J (ju_lw (ju_so (ju_en (ju_be J (nI (tB σ o))) (nI (tE σ o))) (nI (tK σ o))) (updO (j_lw J) t (some i))) := by
  unfold RLI kpJ RTc oth
  dsimp only [jr_lw_be, jr_lw_en, jr_lw_so, jr_lw_lw, jr_nb_be, jr_nb_en, jr_nb_so, jr_nb_lw, jr_lc_be, jr_lc_en, jr_lc_so, jr_lc_lw, jr_fa_be, jr_fa_en, jr_fa_so, jr_fa_lw, jr_be_be, jr_be_en, jr_be_so, jr_be_lw, jr_en_be, jr_en_en, jr_en_so, jr_en_lw, jr_so_be, jr_so_en, jr_so_so, jr_so_lw, jr_rt_be, jr_rt_en, jr_rt_so, jr_rt_lw, jr_rh_be, jr_rh_en, jr_rh_so, jr_rh_lw, jr_rf_be, jr_rf_en, jr_rf_so, jr_rf_lw, jr_pe_be, jr_pe_en, jr_pe_so, jr_pe_lw, jr_wh_be, jr_wh_en, jr_wh_so, jr_wh_lw, jr_us_be, jr_us_en, jr_us_so, jr_us_lw, jr_pb_be, jr_pb_en, jr_pb_so, jr_pb_lw]
  refine ⟨⟨rfl, rfl, rfl, rfl⟩, rfl, hR, hlc, rfl, by rw [updO, if_pos rfl], fun x v h => (by cases h), fun t' h => ⟨by rw [updO, if_neg h], rfl⟩⟩
theorem RLI_s {σ τ : Sg} {t i j o1 v : Nat} {xs : List Nat} {J V : Js} (hV : RLI τ t i o1 xs J V) (hj : xs.length = j) : RLI τ t i (tE σ o1) (xs ++ [v]) J (ju_nb (ju_so (ju_en (ju_be V (nI (tB σ o1))) (nI (tE σ o1))) (nI (tK σ o1))) (updA (j_nb V) t (upd (j_nb V t) j (nI v)))) := by
  obtain ⟨h1, h2, h3, h4, h5, h6, h7, h8⟩ := hV
  unfold kpJ at h1
  unfold RTc at h3
  unfold oth at h8
  unfold RLI kpJ RTc oth
  dsimp only [jr_lw_be, jr_lw_en, jr_lw_so, jr_lw_nb, jr_nb_be, jr_nb_en, jr_nb_so, jr_nb_nb, jr_lc_be, jr_lc_en, jr_lc_so, jr_lc_nb, jr_fa_be, jr_fa_en, jr_fa_so, jr_fa_nb, jr_be_be, jr_be_en, jr_be_so, jr_be_nb, jr_en_be, jr_en_en, jr_en_so, jr_en_nb, jr_so_be, jr_so_en, jr_so_so, jr_so_nb, jr_rt_be, jr_rt_en, jr_rt_so, jr_rt_nb, jr_rh_be, jr_rh_en, jr_rh_so, jr_rh_nb, jr_rf_be, jr_rf_en, jr_rf_so, jr_rf_nb, jr_pe_be, jr_pe_en, jr_pe_so, jr_pe_nb, jr_wh_be, jr_wh_en, jr_wh_so, jr_wh_nb, jr_us_be, jr_us_en, jr_us_so, jr_us_nb, jr_pb_be, jr_pb_en, jr_pb_so, jr_pb_nb]
  refine ⟨h1, rfl, h3, h4, h5, h6, fun x w h => ?_, fun t' ht => ⟨(h8 t' ht).1, by rw [updA, if_neg ht]; exact (h8 t' ht).2⟩⟩
  rw [updA, if_pos rfl, upd]
  rcases (show x < xs.length ∨ xs.length ≤ x by omega) with q | q
  · rw [List.getElem?_append_left q] at h
    rw [if_neg (by omega)]
    exact h7 x w h
  · rw [List.getElem?_append_right q] at h
    rcases (show x - xs.length = 0 ∨ 0 < x - xs.length by omega) with z | z
    · rw [z] at h; cases h; rw [if_pos (by omega)]
    · rw [List.getElem?_eq_none (by show 1 ≤ _; omega)] at h; cases h
def SCP (σ : Sg) (o c : Nat) (J : Js) (r : Int32) (u : Js) : Prop := (tC σ o = -2 ∧ r = bI false ∧ u = tkJ σ o J) ∨ (tC σ o = -3 ∧ c < 12 ∧ r = bI true ∧ u = tkJ σ o J) ∨ (tC σ o ≠ -2 ∧ ¬ (tC σ o = -3 ∧ c < 12) ∧ r = bI false ∧ u = ju_fa (tkJ σ o J) (nI (tB σ o)))
set_option maxHeartbeats 4000000 in
set_option maxRecDepth 100000 in
theorem k_X2_readSemicolon (l : Launch) (D : va_G) (cy : Nat → ClassId) (ad aw : Nat → Nat) (σ : Sg) (J : Js) (o c1 : Nat) (hw : wfS σ) (ho : o ≤ s_ln σ) (hen : j_en J = nI o) (hlc : j_lc J = nI c1) (hc1 : c1 ≤ 12) : MW l yX2_readSemicolon qX2_readSemicolon 3 [.ref (ad 8)] D cy (cw cy ad aw σ J) (SCP σ o c1 J) (fun u : Js => cw cy ad aw σ u) := by
  intro sz
  refine Met.ofW (cc := cX2_readSemicolon) (maxL := 1) (ret := (some .boolean)) (by decide) rfl ?_
  intro p e s m args below meth c s₁ B hml hv
  obtain ⟨rfl, rfl, hP, hK, hN, hD0⟩ := hv
  have hx := B.exec
  have hb := B.bytes
  have hr := B.returns
  have hlocks := B.notSynchronized
  have hts : ∀ cq ∈ tg, cq.before ([.ref (ad 8)] : List Value).toArray s = true := fun cq h => atoms_spec (ws := qX2_readSemicolon) B.pre cq (List.mem_cons_of_mem _ h)
  have hown : s.vm.findClass RX2 = some m.cls := findClass_of_methodNamed B.named
  have hD := hD0.self (sz := s.heap.size)
  generalize hAe : va_A (cw cy ad aw σ J) s.heap.size = A at hD ⊢
  have hA : ∀ q : Nat, s.heap.size ≤ q → A q := fun q h => by rw [← hAe]; exact Or.inr h
  have hS : va_S A s.heap s.heap [] := va_S.rf
  have hl := lv_entry ([.ref (ad 8)]) (n := 1) (Nat.le_of_ble_eq_true rfl)
  rw [lg_entry_eq]
  generalize (lg_sl ([.ref (ad 8)]) ++ List.replicate (1 - (lg_sl ([.ref (ad 8)])).length) Slot.unset).toArray = ls at hl ⊢
  have hl : lv_has ls 1 [(0, .ref (ad 8))] := hl
  have hln := hw.2.2.2.2.1
  have htx := hw.2.2.2.2.2.1
  have hbl := tB_le ho
  have htb := htx (tB σ o)
  have hk3 := tK_le σ o
  refine lv_aload_n hx hb dX2_readSemicolon_0 rfl (lv_at hl 0 rfl) ?_
  refine cr_vv (n := 0) (As := []) (rest := []) ⟨hx, hb, hml, hown, hts⟩ (k_X2_nextToken l D cy ad aw σ J o hw hen ho) gvX2_62 (by decide +kernel) ⟨Nat.le_of_ble_eq_true rfl, Nat.le_of_ble_eq_true rfl⟩ hK hN hP hD hS hA 8 (cw_c8 cy ad aw σ J) rfl rfl hl.1 rfl (Nat.le_of_ble_eq_true rfl) dX2_readSemicolon_1 ⟨Nat.zero_le _, Nat.zero_le _⟩ (fun _ => (cw_ad _ _ _ _ _).trans (cw_ad _ _ _ _ _).symm) (fun u1 H locs hpu1 hP hD hS => ?_)
  have hP : va_P D vwCl (cw cy ad aw σ (ju_so (ju_en (ju_be J (nI (tB σ o))) (nI (tE σ o))) (nI (tK σ o)))) H := hP
  have hD : va_D A (cw cy ad aw σ (ju_so (ju_en (ju_be J (nI (tB σ o))) (nI (tE σ o))) (nI (tK σ o)))) := hD
  refine lv_aload_n hx hb dX2_readSemicolon_4 rfl (lv_at hl 0 rfl) ?_
  refine va_get (D := D) (ci := 2) (v := .int (nI (tK σ o))) (C := RX2) (T := TX2) (N := 11) hx hb hts ni2 hown hK hP 8 (cw_c8 cy ad aw σ (ju_so (ju_en (ju_be J (nI (tB σ o))) (nI (tE σ o))) (nI (tK σ o)))) rfl 7 (by decide) (hts _ flX2_111) (fun _ h => h) rfl dX2_readSemicolon_5 ?_
  refine lv_iconst (v := nI 3) hx hb dX2_readSemicolon_8 (by decide) ?_
  refine ln_icmp_ne (tgt := 14) hx hb dX2_readSemicolon_9 (by decide) (by omega) (by omega) (fun c9 => ?_) (fun c9 => ?_)
  · refine lv_aload_n hx hb dX2_readSemicolon_14 rfl (lv_at hl 0 rfl) ?_
    refine va_get (D := D) (ci := 2) (v := .ref (ad 1)) (C := RX2) (T := TX2) (N := 11) hx hb hts ni2 hown hK hP 8 (cw_c8 cy ad aw σ (ju_so (ju_en (ju_be J (nI (tB σ o))) (nI (tE σ o))) (nI (tK σ o)))) rfl 3 (by decide) (hts _ flX2_24) (fun _ h => h) rfl dX2_readSemicolon_15 ?_
    refine lv_aload_n hx hb dX2_readSemicolon_18 rfl (lv_at hl 0 rfl) ?_
    refine va_get (D := D) (ci := 2) (v := .int (nI (tB σ o))) (C := RX2) (T := TX2) (N := 11) hx hb hts ni2 hown hK hP 8 (cw_c8 cy ad aw σ (ju_so (ju_en (ju_be J (nI (tB σ o))) (nI (tE σ o))) (nI (tK σ o)))) rfl 5 (by decide) (hts _ flX2_114) (fun _ h => h) rfl dX2_readSemicolon_19 ?_
    refine cr_v (n := 1) (As := [.int (nI (tB σ o))]) (rest := []) ⟨hx, hb, hml, hown, hts⟩ (k_byteAt1 l D cy ad aw σ (ju_so (ju_en (ju_be J (nI (tB σ o))) (nI (tE σ o))) (nI (tK σ o))) (tB σ o) hw (tB_lt ho c9)) gvX2_117 (by decide +kernel) ⟨Nat.le_of_ble_eq_true rfl, Nat.le_of_ble_eq_true rfl⟩ hK hN hP 1 (cw_c1 cy ad aw σ (ju_so (ju_en (ju_be J (nI (tB σ o))) (nI (tE σ o))) (nI (tK σ o)))) rfl rfl hl.1 rfl (Nat.le_of_ble_eq_true rfl) dX2_readSemicolon_22 ⟨Nat.zero_le _, Nat.zero_le _⟩ ?_
    refine lv_bipush (v := nI 59) hx hb dX2_readSemicolon_25 (by decide) ?_
    refine ln_icmp_ne (tgt := 39) hx hb dX2_readSemicolon_27 (by decide) (by omega) (by omega) (fun c27 => ?_) (fun c27 => ?_)
    · refine lv_aload_n hx hb dX2_readSemicolon_39 rfl (lv_at hl 0 rfl) ?_
      refine cr_w (n := 0) (As := []) (rest := []) ⟨hx, hb, hml, hown, hts⟩ (k_X2_faultHere l D cy ad aw σ (ju_so (ju_en (ju_be J (nI (tB σ o))) (nI (tE σ o))) (nI (tK σ o))) ) gvX2_73 (by decide +kernel) ⟨Nat.le_of_ble_eq_true rfl, Nat.le_of_ble_eq_true rfl⟩ hK hN hP hD hS hA 8 (cw_c8 cy ad aw σ (ju_so (ju_en (ju_be J (nI (tB σ o))) (nI (tE σ o))) (nI (tK σ o)))) rfl rfl hl.1 rfl (Nat.le_of_ble_eq_true rfl) dX2_readSemicolon_40 ⟨Nat.zero_le _, Nat.zero_le _⟩ (fun _ => (cw_ad _ _ _ _ _).trans (cw_ad _ _ _ _ _).symm) (fun r3 u2 H locs hpu2 hP hD hS => ?_)
      have hpu2 : r3 = bI false := hpu2
      subst hpu2
      have hP : va_P D vwCl (cw cy ad aw σ (ju_fa (ju_so (ju_en (ju_be J (nI (tB σ o))) (nI (tE σ o))) (nI (tK σ o))) (nI (tB σ o)))) H := hP
      have hD : va_D A (cw cy ad aw σ (ju_fa (ju_so (ju_en (ju_be J (nI (tB σ o))) (nI (tE σ o))) (nI (tK σ o))) (nI (tB σ o)))) := hD
      exact rw_z hx hb hr hlocks hS (ju_fa (ju_so (ju_en (ju_be J (nI (tB σ o))) (nI (tE σ o))) (nI (tK σ o))) (nI (tB σ o))) (Or.inr (Or.inr ⟨fun z => c9 (tC_m2.mp z), fun z => by first | exact c27 ((tC_m3 c9).mp z.1) | omega, rfl, rfl⟩)) hP dX2_readSemicolon_43
    · refine lv_aload_n hx hb dX2_readSemicolon_30 rfl (lv_at hl 0 rfl) ?_
      refine va_get (D := D) (ci := 2) (v := .int (j_lc J)) (C := RX2) (T := TX2) (N := 11) hx hb hts ni2 hown hK hP 8 (cw_c8 cy ad aw σ (ju_so (ju_en (ju_be J (nI (tB σ o))) (nI (tE σ o))) (nI (tK σ o)))) rfl 1 (by decide) (hts _ flX2_17) (fun _ h => h) rfl dX2_readSemicolon_31 ?_
      refine ln_eq (show (j_lc J) = (nI (c1)) from hlc) ?_
      refine lv_bipush (v := nI 12) hx hb dX2_readSemicolon_34 (by decide) ?_
      refine ln_icmp_lt (tgt := 44) hx hb dX2_readSemicolon_36 (by decide) (by omega) (by omega) (fun c36 => ?_) (fun c36 => ?_)
      · refine lv_iconst (v := nI 1) hx hb dX2_readSemicolon_44 (by decide) ?_
        refine ln_eq bI_t.symm ?_
        exact rw_z hx hb hr hlocks hS (ju_so (ju_en (ju_be J (nI (tB σ o))) (nI (tE σ o))) (nI (tK σ o))) (Or.inr (Or.inl ⟨(tC_m3 c9).mpr c27, c36, rfl, rfl⟩)) hP dX2_readSemicolon_45
      · refine lv_aload_n hx hb dX2_readSemicolon_39 rfl (lv_at hl 0 rfl) ?_
        refine cr_w (n := 0) (As := []) (rest := []) ⟨hx, hb, hml, hown, hts⟩ (k_X2_faultHere l D cy ad aw σ (ju_so (ju_en (ju_be J (nI (tB σ o))) (nI (tE σ o))) (nI (tK σ o))) ) gvX2_73 (by decide +kernel) ⟨Nat.le_of_ble_eq_true rfl, Nat.le_of_ble_eq_true rfl⟩ hK hN hP hD hS hA 8 (cw_c8 cy ad aw σ (ju_so (ju_en (ju_be J (nI (tB σ o))) (nI (tE σ o))) (nI (tK σ o)))) rfl rfl hl.1 rfl (Nat.le_of_ble_eq_true rfl) dX2_readSemicolon_40 ⟨Nat.zero_le _, Nat.zero_le _⟩ (fun _ => (cw_ad _ _ _ _ _).trans (cw_ad _ _ _ _ _).symm) (fun r5 u4 H locs hpu4 hP hD hS => ?_)
        have hpu4 : r5 = bI false := hpu4
        subst hpu4
        have hP : va_P D vwCl (cw cy ad aw σ (ju_fa (ju_so (ju_en (ju_be J (nI (tB σ o))) (nI (tE σ o))) (nI (tK σ o))) (nI (tB σ o)))) H := hP
        have hD : va_D A (cw cy ad aw σ (ju_fa (ju_so (ju_en (ju_be J (nI (tB σ o))) (nI (tE σ o))) (nI (tK σ o))) (nI (tB σ o)))) := hD
        exact rw_z hx hb hr hlocks hS (ju_fa (ju_so (ju_en (ju_be J (nI (tB σ o))) (nI (tE σ o))) (nI (tK σ o))) (nI (tB σ o))) (Or.inr (Or.inr ⟨fun z => c9 (tC_m2.mp z), fun z => by first | exact c27 ((tC_m3 c9).mp z.1) | omega, rfl, rfl⟩)) hP dX2_readSemicolon_43
  · refine lv_iconst (v := nI 0) hx hb dX2_readSemicolon_12 (by decide) ?_
    refine ln_eq bI_f.symm ?_
    exact rw_z hx hb hr hlocks hS (ju_so (ju_en (ju_be J (nI (tB σ o))) (nI (tE σ o))) (nI (tK σ o))) (Or.inl ⟨tC_m2.mpr c9, rfl, rfl⟩) hP dX2_readSemicolon_13
set_option maxHeartbeats 4000000 in
set_option maxRecDepth 100000 in
theorem k_X2_readLine (l : Launch) (D : va_G) (cy : Nat → ClassId) (ad aw aS aV aT : Nat → Nat) (σ : Sg) (J : Js) (τ : Sg) (o t : Nat) (hw : wfS σ) (ho : o ≤ s_ln σ) (hen : j_en J = nI o) (hRT : RTc τ J) (hwf : wf1 τ) (hlc : j_lc J = nI t) (ht : t < 12) : MWC l yX2_readLine qX2_readLine 6 [.ref (ad 8), .ref (ad (34 + t))] D cy (cw cy ad aw σ J) aw aS aV aT (RLP σ τ o t J) (fun u : Js => cw cy ad aw σ u) := by
  intro sz
  refine Met.ofW (cc := cX2_readLine) (maxL := 6) (ret := (some .boolean)) (by decide) rfl ?_
  intro p e s m args below meth c s₁ B hml hv
  obtain ⟨rfl, rfl, hP, hK, hN, hD0, hC⟩ := hv
  have hx := B.exec
  have hb := B.bytes
  have hr := B.returns
  have hlocks := B.notSynchronized
  have hts : ∀ cq ∈ tg, cq.before ([.ref (ad 8), .ref (ad (34 + t))] : List Value).toArray s = true := fun cq h => atoms_spec (ws := qX2_readLine) B.pre cq (List.mem_cons_of_mem _ h)
  have hown : s.vm.findClass RX2 = some m.cls := findClass_of_methodNamed B.named
  have hD := hD0.self (sz := s.heap.size)
  generalize hAe : va_A (cw cy ad aw σ J) s.heap.size = A at hD hC ⊢
  have hA : ∀ q : Nat, s.heap.size ≤ q → A q := fun q h => by rw [← hAe]; exact Or.inr h
  have hS : va_S A s.heap s.heap [] := va_S.rf
  have hl := lv_entry ([.ref (ad 8), .ref (ad (34 + t))]) (n := 6) (Nat.le_of_ble_eq_true rfl)
  rw [lg_entry_eq]
  generalize (lg_sl ([.ref (ad 8), .ref (ad (34 + t))]) ++ List.replicate (6 - (lg_sl ([.ref (ad 8), .ref (ad (34 + t))])).length) Slot.unset).toArray = ls at hl ⊢
  have hl : lv_has ls 6 [(0, .ref (ad 8)), (1, .ref (ad (34 + t)))] := hl
  refine lv_aload_n hx hb dX2_readLine_0 rfl (lv_at hl 0 rfl) ?_
  refine cr_vv (n := 0) (As := []) (rest := []) ⟨hx, hb, hml, hown, hts⟩ (k_X2_nextToken l D cy ad aw σ J o hw hen ho) gvX2_62 (by decide +kernel) ⟨Nat.le_of_ble_eq_true rfl, Nat.le_of_ble_eq_true rfl⟩ hK hN hP hD hS hA 8 (cw_c8 cy ad aw σ J) rfl rfl hl.1 rfl (Nat.le_of_ble_eq_true rfl) dX2_readLine_1 ⟨Nat.zero_le _, Nat.zero_le _⟩ (fun _ => (cw_ad _ _ _ _ _).trans (cw_ad _ _ _ _ _).symm) (fun u1 H locs hpu1 hP hD hS => ?_)
  have hP : va_P D vwCl (cw cy ad aw σ (ju_so (ju_en (ju_be J (nI (tB σ o))) (nI (tE σ o))) (nI (tK σ o)))) H := hP
  have hD : va_D A (cw cy ad aw σ (ju_so (ju_en (ju_be J (nI (tB σ o))) (nI (tE σ o))) (nI (tK σ o)))) := hD
  refine lv_aload_n hx hb dX2_readLine_4 rfl (lv_at hl 0 rfl) ?_
  refine ke_v (n := 0) (As := []) (rest := []) ⟨hx, hb, hml, hown, hts⟩ (k_X2_findWord l D cy ad aw aS aV aT σ (ju_so (ju_en (ju_be J (nI (tB σ o))) (nI (tE σ o))) (nI (tK σ o))) o hw ho (TKJ.tk _ _ _)) gvX2_65 (by decide +kernel) ⟨Nat.le_of_ble_eq_true rfl, Nat.le_of_ble_eq_true rfl⟩ hK hN hP hC hS 8 (cw_c8 cy ad aw σ (ju_so (ju_en (ju_be J (nI (tB σ o))) (nI (tE σ o))) (nI (tK σ o)))) rfl rfl hl.1 rfl (Nat.le_of_ble_eq_true rfl) dX2_readLine_5 ⟨Nat.zero_le _, Nat.zero_le _⟩ ?_
  rcases hq : fwO σ o with _ | i
  · refine lx_eq (show va_re aw none = .null from rfl) ?_
    refine lv_astore_nN (lv' := [(2, .null), (0, .ref (ad 8)), (1, .ref (ad (34 + t)))]) hx hb dX2_readLine_8 rfl hl (by decide) rfl (fun ls hl => ?_)
    refine lv_aload_nN hx hb dX2_readLine_9 rfl (lv_at hl 0 rfl) ?_
    refine lv_ifnullN (tgt := 21) hx hb dX2_readLine_10 (by decide) ?_
    refine lv_aload_n hx hb dX2_readLine_21 rfl (lv_at hl 1 rfl) ?_
    refine cr_w (n := 0) (As := []) (rest := []) ⟨hx, hb, hml, hown, hts⟩ (k_X2_faultHere l D cy ad aw σ (ju_so (ju_en (ju_be J (nI (tB σ o))) (nI (tE σ o))) (nI (tK σ o))) ) gvX2_73 (by decide +kernel) ⟨Nat.le_of_ble_eq_true rfl, Nat.le_of_ble_eq_true rfl⟩ hK hN hP hD hS hA 8 (cw_c8 cy ad aw σ (ju_so (ju_en (ju_be J (nI (tB σ o))) (nI (tE σ o))) (nI (tK σ o)))) rfl rfl hl.1 rfl (Nat.le_of_ble_eq_true rfl) dX2_readLine_22 ⟨Nat.zero_le _, Nat.zero_le _⟩ (fun _ => (cw_ad _ _ _ _ _).trans (cw_ad _ _ _ _ _).symm) (fun r3 u2 H locs hpu2 hP hD hS => ?_)
    have hpu2 : r3 = bI false := hpu2
    subst hpu2
    have hP : va_P D vwCl (cw cy ad aw σ (ju_fa (ju_so (ju_en (ju_be J (nI (tB σ o))) (nI (tE σ o))) (nI (tK σ o))) (nI (tB σ o)))) H := hP
    have hD : va_D A (cw cy ad aw σ (ju_fa (ju_so (ju_en (ju_be J (nI (tB σ o))) (nI (tE σ o))) (nI (tK σ o))) (nI (tB σ o)))) := hD
    exact rw_z hx hb hr hlocks hS (ju_fa (ju_so (ju_en (ju_be J (nI (tB σ o))) (nI (tE σ o))) (nI (tK σ o))) (nI (tB σ o))) (RLP_f (f := tB σ o) (by rw [rLine, if_pos (Or.inl (fw_none hq))]) (kp_fh (kpJ.rf J)) fa_r) hP dX2_readLine_25
  · refine lx_eq (show va_re aw (some i) = .ref (aw i) from rfl) ?_
    obtain ⟨hi11, hwd⟩ := fw_some hq
    have hsl := wsl_lt hi11
    have hl9 := ln_9 hsl
    have h4 := sl_4 hi11
    refine lv_astore_n (lv' := [(2, .ref (aw i)), (0, .ref (ad 8)), (1, .ref (ad (34 + t)))]) hx hb dX2_readLine_8 rfl hl (by decide) rfl (fun ls hl => ?_)
    refine lv_aload_n hx hb dX2_readLine_9 rfl (lv_at hl 0 rfl) ?_
    refine lv_ifnull hx hb dX2_readLine_10 ?_
    refine lv_aload_n hx hb dX2_readLine_13 rfl (lv_at hl 1 rfl) ?_
    refine lv_aload_n hx hb dX2_readLine_14 rfl (lv_at hl 0 rfl) ?_
    refine kr_v (n := 1) (As := [.ref (aw i)]) (rest := []) ⟨hx, hb, hml, hown, hts⟩ (k_X2_isTooMany l D cy ad aw aS aV aT σ (ju_so (ju_en (ju_be J (nI (tB σ o))) (nI (tE σ o))) (nI (tK σ o))) τ i hi11 (RT_tk hRT) hwf.1 hwf.2.1) gvX2_69 (by decide +kernel) ⟨Nat.le_of_ble_eq_true rfl, Nat.le_of_ble_eq_true rfl⟩ hK hN hP hC hS 8 (cw_c8 cy ad aw σ (ju_so (ju_en (ju_be J (nI (tB σ o))) (nI (tE σ o))) (nI (tK σ o)))) rfl rfl hl.1 rfl (Nat.le_of_ble_eq_true rfl) dX2_readLine_15 ⟨Nat.zero_le _, Nat.zero_le _⟩ ?_
    refine lb_if_eq (tgt := 26) hx hb dX2_readLine_18 (by decide) (fun c18 => ?_) (fun c18 => ?_)
    · refine lv_aload_n hx hb dX2_readLine_26 rfl (lv_at hl 2 rfl) ?_
      refine lv_aload_n hx hb dX2_readLine_27 rfl (lv_at hl 0 rfl) ?_
      refine ln_put (ci := 1) (C := RX1) (T := TX1) (N := 2) (ty := (.object "NumberFerries$Word")) (v := va_re aw (some i)) hx hb hts ni1 tyX1 tyX1_ok nmX1 hown hK hP hD hS (34 + t) (cw_line cy ad aw σ (ju_so (ju_en (ju_be J (nI (tB σ o))) (nI (tE σ o))) (nI (tK σ o))) (t := t) (by omega)) rfl 0 (by decide) (hts _ flX2_76) (fun _ h => h) rfl (by decide +kernel) rfl rfl (Nat.le_of_ble_eq_true rfl) (cp_line_0 cy ad aw σ (ju_so (ju_en (ju_be J (nI (tB σ o))) (nI (tE σ o))) (nI (tK σ o))) (some i) (t := t) (by omega)) dX2_readLine_28 (fun H locs hP hD hS => ?_)
      refine lv_aload_n hx hb dX2_readLine_31 rfl (lv_at hl 0 rfl) ?_
      refine vk_getf (v := .ref (aS (wsl i))) hx hb (hC.1 i (by omega)).2.2.1 hS hown (hts _ flX2_80) (fun _ h => h) dX2_readLine_32 ?_
      refine kc_v (n := 0) (As := []) (rest := []) ⟨hx, hb, hml, hown, hts⟩ (k_J0_length_8abf5 l aw aS aV aT (wsl i) (by omega)) gvX2_86 (by decide +kernel) ⟨Nat.le_of_ble_eq_true rfl, Nat.le_of_ble_eq_true rfl⟩ hC hS (hC.srecv (by omega) hS) rfl hl.1 rfl (Nat.le_of_ble_eq_true rfl) dX2_readLine_35 ⟨Nat.zero_le _, Nat.zero_le _⟩ ?_
      refine lv_istore_n (lv' := [(3, .int (nI (ln_ (wsl i)))), (2, .ref (aw i)), (0, .ref (ad 8)), (1, .ref (ad (34 + t)))]) hx hb dX2_readLine_38 rfl hl (by decide) rfl (fun ls hl => ?_)
      refine lv_iconst (v := nI 0) hx hb dX2_readLine_39 (by decide) ?_
      refine lv_istore (lv' := [(4, .int (nI (0))), (3, .int (nI (ln_ (wsl i)))), (2, .ref (aw i)), (0, .ref (ad 8)), (1, .ref (ad (34 + t)))]) hx hb dX2_readLine_40 hl (by decide) rfl (fun ls hl => ?_)
      have lp : ∀ (k j o1 : Nat) (xs : List Nat) (V : Js) (H : Heap) (locs : List Loc) (ls : Array Slot), j + k = ln_ (wsl i) → xs.length = j → o1 ≤ s_ln σ → RLI τ t i o1 xs J V → rLine σ τ o = glL (wo i) xs (rNum σ ((slo τ (wo i)).drop j) o1) → va_P D vwCl (cw cy ad aw σ V) H → va_D A (cw cy ad aw σ V) → va_S A s.heap H locs → lv_has ls 6 [(4, .int (nI (j))), (0, .ref (ad 8)), (1, .ref (ad (34 + t))), (2, .ref (aw i)), (3, .int (nI (ln_ (wsl i))))] → W p l e (headSpec qX2_readLine (rq 6)).room s m ([.ref (ad 8), .ref (ad (34 + t))] : List Value).toArray below meth c H locs 0 0 (MQ below (va_Qi (RLP σ τ o t J) (fun u t => va_P D vwCl ((fun u : Js => cw cy ad aw σ u) u) t.heap) A) ([.ref (ad 8), .ref (ad (34 + t))] : List Value).toArray s 0 0 A) (F0 m 42 ls []) := by
        intro k
        induction k with
        | zero =>
          intro j o1 xs V H locs ls hk hxl ho1 hV hrl hP hD hS hl
          have hje : j = ln_ (wsl i) := by omega
          refine lv_iload hx hb dX2_readLine_42 (lv_at hl 0 rfl) ?_
          refine lv_iload_n hx hb dX2_readLine_44 rfl (lv_at hl 4 rfl) ?_
          refine ln_icmp_ge (tgt := 102) hx hb dX2_readLine_45 (by decide) (by omega) (by omega) (fun c45 => ?_) (fun c45 => ?_)
          · refine lv_aload_n hx hb dX2_readLine_102 rfl (lv_at hl 1 rfl) ?_
            refine lv_dup hx hb dX2_readLine_103 rfl ?_
            refine va_get (D := D) (ci := 2) (v := .int (j_lc V)) (C := RX2) (T := TX2) (N := 11) hx hb hts ni2 hown hK hP 8 (cw_c8 cy ad aw σ V) rfl 1 (by decide) (hts _ flX2_17) (fun _ h => h) rfl dX2_readLine_104 ?_
            refine ln_eq (show (j_lc V) = (nI (t)) from hV.2.2.2.1) ?_
            refine lv_iconst (v := nI 1) hx hb dX2_readLine_107 (by decide) ?_
            refine ln_iadd hx hb dX2_readLine_108 ?_
            refine ln_put (ci := 2) (C := RX2) (T := TX2) (N := 11) (ty := .int) (v := .int (nI (t + 1))) hx hb hts ni2 tyX2 tyX2_ok nmX2 hown hK hP hD hS 8 (cw_c8 cy ad aw σ V) rfl 1 (by decide) (hts _ flX2_17) (fun _ h => h) rfl (by decide +kernel) rfl rfl (Nat.le_of_ble_eq_true rfl) (cp_8_1 cy ad aw σ V (nI (t + 1))) dX2_readLine_109 (fun H locs hP hD hS => ?_)
            refine lv_aload_n hx hb dX2_readLine_112 rfl (lv_at hl 1 rfl) ?_
            refine lv_aload_n hx hb dX2_readLine_113 rfl (lv_at hl 3 rfl) ?_
            refine kw_v (n := 1) (As := [.ref (aw i)]) (rest := []) ⟨hx, hb, hml, hown, hts⟩ (k_X2_foresee l D cy ad aw aS aV aT σ (ju_lc V (nI (t + 1))) τ i xs hi11 (RT_lc hV.2.2.1) hwf.1) gvX2_107 (by decide +kernel) ⟨Nat.le_of_ble_eq_true rfl, Nat.le_of_ble_eq_true rfl⟩ hK hN hP hD hS hA hC 8 (cw_c8 cy ad aw σ (ju_lc V (nI (t + 1)))) rfl rfl hl.1 rfl (Nat.le_of_ble_eq_true rfl) dX2_readLine_114 ⟨Nat.zero_le _, Nat.zero_le _⟩ (fun _ => (cw_ad _ _ _ _ _).trans (cw_ad _ _ _ _ _).symm) (fun u4 H locs hpu4 hP hD hS => ?_)
            have hP : va_P D vwCl (cw cy ad aw σ (fsJ (doL τ (wo i) xs) (ju_lc V (nI (t + 1))))) H := hP
            have hD : va_D A (cw cy ad aw σ (fsJ (doL τ (wo i) xs) (ju_lc V (nI (t + 1))))) := hD
            refine lv_iconst (v := nI 1) hx hb dX2_readLine_117 (by decide) ?_
            refine ln_eq bI_t.symm ?_
            exact rw_z hx hb hr hlocks hS (fsJ (doL τ (wo i) xs) (ju_lc V (nI (t + 1)))) (RLP_t hi11 hV (by rw [hrl, hje, slo_end hi11, rNum]; show Sum.inr (o1, wo i, xs ++ []) = _; rw [List.append_nil])) hP dX2_readLine_118
          · exact absurd c45 (by omega)
        | succ k ih =>
          intro j o1 xs V H locs ls hk hxl ho1 hV hrl hP hD hS hl
          have hjl : j < ln_ (wsl i) := by omega
          have hn9 := nh_le (σ := σ) (o := o1)
          refine lv_iload hx hb dX2_readLine_42 (lv_at hl 0 rfl) ?_
          refine lv_iload_n hx hb dX2_readLine_44 rfl (lv_at hl 4 rfl) ?_
          refine ln_icmp_ge (tgt := 102) hx hb dX2_readLine_45 (by decide) (by omega) (by omega) (fun c45 => ?_) (fun c45 => ?_)
          · exact absurd c45 (by omega)
          · refine lv_iload hx hb dX2_readLine_48 (lv_at hl 0 rfl) ?_
            refine lv_iconst (v := nI 4) hx hb dX2_readLine_50 (by decide) ?_
            refine ln_icmp_ge (tgt := 102) hx hb dX2_readLine_51 (by decide) (by omega) (by omega) (fun c51 => ?_) (fun c51 => ?_)
            · exact absurd c51 (by omega)
            · refine lv_aload_n hx hb dX2_readLine_54 rfl (lv_at hl 1 rfl) ?_
              refine cr_vv (n := 0) (As := []) (rest := []) ⟨hx, hb, hml, hown, hts⟩ (k_X2_nextToken l D cy ad aw σ V o1 hw hV.2.1 ho1) gvX2_62 (by decide +kernel) ⟨Nat.le_of_ble_eq_true rfl, Nat.le_of_ble_eq_true rfl⟩ hK hN hP hD hS hA 8 (cw_c8 cy ad aw σ V) rfl rfl hl.1 rfl (Nat.le_of_ble_eq_true rfl) dX2_readLine_55 ⟨Nat.zero_le _, Nat.zero_le _⟩ (fun _ => (cw_ad _ _ _ _ _).trans (cw_ad _ _ _ _ _).symm) (fun u5 H locs hpu5 hP hD hS => ?_)
              have hP : va_P D vwCl (cw cy ad aw σ (ju_so (ju_en (ju_be V (nI (tB σ o1))) (nI (tE σ o1))) (nI (tK σ o1)))) H := hP
              have hD : va_D A (cw cy ad aw σ (ju_so (ju_en (ju_be V (nI (tB σ o1))) (nI (tE σ o1))) (nI (tK σ o1)))) := hD
              refine lv_aload_n hx hb dX2_readLine_58 rfl (lv_at hl 1 rfl) ?_
              refine cr_v (n := 0) (As := []) (rest := []) ⟨hx, hb, hml, hown, hts⟩ (k_X2_numberHere l D cy ad aw σ (ju_so (ju_en (ju_be V (nI (tB σ o1))) (nI (tE σ o1))) (nI (tK σ o1))) o1 hw ho1 (TKJ.tk _ _ _)) gvX2_92 (by decide +kernel) ⟨Nat.le_of_ble_eq_true rfl, Nat.le_of_ble_eq_true rfl⟩ hK hN hP 8 (cw_c8 cy ad aw σ (ju_so (ju_en (ju_be V (nI (tB σ o1))) (nI (tE σ o1))) (nI (tK σ o1)))) rfl rfl hl.1 rfl (Nat.le_of_ble_eq_true rfl) dX2_readLine_59 ⟨Nat.zero_le _, Nat.zero_le _⟩ ?_
              refine lv_istore (lv' := [(5, .int (oI (nhO σ o1))), (4, .int (nI (j))), (0, .ref (ad 8)), (1, .ref (ad (34 + t))), (2, .ref (aw i)), (3, .int (nI (ln_ (wsl i))))]) hx hb dX2_readLine_62 hl (by decide) rfl (fun ls hl => ?_)
              refine lv_aload_n hx hb dX2_readLine_64 rfl (lv_at hl 2 rfl) ?_
              refine lv_aload_n hx hb dX2_readLine_65 rfl (lv_at hl 4 rfl) ?_
              refine vk_getf (v := .ref (aS (wsl i))) hx hb (hC.1 i (by omega)).2.2.1 hS hown (hts _ flX2_80) (fun _ h => h) dX2_readLine_66 ?_
              refine lv_iload hx hb dX2_readLine_69 (lv_at hl 1 rfl) ?_
              refine kc_v (n := 1) (As := [.int (nI (j))]) (rest := [.ref (ad 8)]) ⟨hx, hb, hml, hown, hts⟩ (k_J0_charAt_5068e l aw aS aV aT (wsl i) j (by omega) (by omega)) gvX2_95 (by decide +kernel) ⟨Nat.le_of_ble_eq_true rfl, Nat.le_of_ble_eq_true rfl⟩ hC hS (hC.srecv (by omega) hS) rfl hl.1 rfl (Nat.le_of_ble_eq_true rfl) dX2_readLine_71 ⟨Nat.zero_le _, Nat.zero_le _⟩ ?_
              refine lv_iload hx hb dX2_readLine_74 (lv_at hl 0 rfl) ?_
              refine kr_v (n := 2) (As := [.int (nI (bn_ (wsl i) j)), .int (oI (nhO σ o1))]) (rest := []) ⟨hx, hb, hml, hown, hts⟩ (k_X2_canStand l D cy ad aw aS aV aT σ (ju_so (ju_en (ju_be V (nI (tB σ o1))) (nI (tE σ o1))) (nI (tK σ o1))) τ (bn_ (wsl i) j) (nhO σ o1) (sl_c hi11 hjl) hn9 (RT_tk hV.2.2.1) hwf.1) gvX2_99 (by decide +kernel) ⟨Nat.le_of_ble_eq_true rfl, Nat.le_of_ble_eq_true rfl⟩ hK hN hP hC hS 8 (cw_c8 cy ad aw σ (ju_so (ju_en (ju_be V (nI (tB σ o1))) (nI (tE σ o1))) (nI (tK σ o1)))) rfl rfl hl.1 rfl (Nat.le_of_ble_eq_true rfl) dX2_readLine_76 ⟨Nat.zero_le _, Nat.zero_le _⟩ ?_
              refine lb_if_ne (tgt := 87) hx hb dX2_readLine_79 (by decide) (fun c79 => ?_) (fun c79 => ?_)
              · have hnv := cs_some c79
                rw [hnv] at hl
                have hl : lv_has ls 6 [(5, .int (nI (tN σ o1))), (4, .int (nI (j))), (0, .ref (ad 8)), (1, .ref (ad (34 + t))), (2, .ref (aw i)), (3, .int (nI (ln_ (wsl i))))] := hl
                refine lv_aload_n hx hb dX2_readLine_87 rfl (lv_at hl 3 rfl) ?_
                refine va_get (D := D) (ci := 1) (v := .ref (ad (46 + t))) (C := RX1) (T := TX1) (N := 2) hx hb hts ni1 hown hK hP (34 + t) (cw_line cy ad aw σ (ju_so (ju_en (ju_be V (nI (tB σ o1))) (nI (tE σ o1))) (nI (tK σ o1))) (t := t) (by omega)) rfl 1 (by decide) (hts _ flX2_103) (fun _ h => h) rfl dX2_readLine_88 ?_
                refine lv_iload hx hb dX2_readLine_91 (lv_at hl 1 rfl) ?_
                refine lv_iload hx hb dX2_readLine_93 (lv_at hl 0 rfl) ?_
                refine ln_iast hx hb hK hP hD hS (46 + t) (cw_nums cy ad aw σ (ju_so (ju_en (ju_be V (nI (tB σ o1))) (nI (tE σ o1))) (nI (tK σ o1))) (t := t) (by omega)) (by omega) (by decide) (cp_nums cy ad aw σ (ju_so (ju_en (ju_be V (nI (tB σ o1))) (nI (tE σ o1))) (nI (tK σ o1))) j (nI (tN σ o1)) (t := t) (by omega)) dX2_readLine_95 (fun H locs hP hD hS => ?_)
                refine ln_iinc (lv' := [(4, .int (nI (j + 1))), (5, .int (nI (tN σ o1))), (0, .ref (ad 8)), (1, .ref (ad (34 + t))), (2, .ref (aw i)), (3, .int (nI (ln_ (wsl i))))]) hx hb dX2_readLine_96 hl (k := 1) (n := 1) rfl (by decide) rfl (fun ls hl => ?_)
                refine lv_goto (tgt := 42) hx hb dX2_readLine_99 (by decide) ?_
                exact ih (j + 1) (tE σ o1) (xs ++ [tN σ o1]) _ _ _ ls (by omega) (by rw [List.length_append]; show xs.length + 1 = j + 1; omega) (tE_le ho1) (RLI_s hV hxl) (by rw [hrl, slo_drop hi11 hjl, rNum_t (by rw [← cs_num]; exact c79)]; exact glL_cons _ _ _ _) hP hD hS (lv_sub hl [0, 2, 3, 4, 5] rfl)
              · refine lv_aload_n hx hb dX2_readLine_82 rfl (lv_at hl 2 rfl) ?_
                refine cr_w (n := 0) (As := []) (rest := []) ⟨hx, hb, hml, hown, hts⟩ (k_X2_faultHere l D cy ad aw σ (ju_so (ju_en (ju_be V (nI (tB σ o1))) (nI (tE σ o1))) (nI (tK σ o1))) ) gvX2_73 (by decide +kernel) ⟨Nat.le_of_ble_eq_true rfl, Nat.le_of_ble_eq_true rfl⟩ hK hN hP hD hS hA 8 (cw_c8 cy ad aw σ (ju_so (ju_en (ju_be V (nI (tB σ o1))) (nI (tE σ o1))) (nI (tK σ o1)))) rfl rfl hl.1 rfl (Nat.le_of_ble_eq_true rfl) dX2_readLine_83 ⟨Nat.zero_le _, Nat.zero_le _⟩ (fun _ => (cw_ad _ _ _ _ _).trans (cw_ad _ _ _ _ _).symm) (fun r7 u6 H locs hpu6 hP hD hS => ?_)
                have hpu6 : r7 = bI false := hpu6
                subst hpu6
                have hP : va_P D vwCl (cw cy ad aw σ (ju_fa (ju_so (ju_en (ju_be V (nI (tB σ o1))) (nI (tE σ o1))) (nI (tK σ o1))) (nI (tB σ o1)))) H := hP
                have hD : va_D A (cw cy ad aw σ (ju_fa (ju_so (ju_en (ju_be V (nI (tB σ o1))) (nI (tE σ o1))) (nI (tK σ o1))) (nI (tB σ o1)))) := hD
                exact rw_z hx hb hr hlocks hS (ju_fa (ju_so (ju_en (ju_be V (nI (tB σ o1))) (nI (tE σ o1))) (nI (tK σ o1))) (nI (tB σ o1))) (RLP_f (f := tB σ o1) (by rw [hrl, slo_drop hi11 hjl, rNum_f (by rw [← cs_num]; exact c79)]; rfl) (kp_fh hV.1) fa_r) hP dX2_readLine_86
      exact lp (ln_ (wsl i)) 0 (tE σ o) [] _ _ _ ls (Nat.zero_add _) rfl (tE_le ho) (RLI_0 hRT hlc) (glL_0 hwd hi11 c18) hP hD hS (lv_sub hl [0, 3, 4, 2, 1] rfl)
    · refine lv_aload_n hx hb dX2_readLine_21 rfl (lv_at hl 1 rfl) ?_
      refine cr_w (n := 0) (As := []) (rest := []) ⟨hx, hb, hml, hown, hts⟩ (k_X2_faultHere l D cy ad aw σ (ju_so (ju_en (ju_be J (nI (tB σ o))) (nI (tE σ o))) (nI (tK σ o))) ) gvX2_73 (by decide +kernel) ⟨Nat.le_of_ble_eq_true rfl, Nat.le_of_ble_eq_true rfl⟩ hK hN hP hD hS hA 8 (cw_c8 cy ad aw σ (ju_so (ju_en (ju_be J (nI (tB σ o))) (nI (tE σ o))) (nI (tK σ o)))) rfl rfl hl.1 rfl (Nat.le_of_ble_eq_true rfl) dX2_readLine_22 ⟨Nat.zero_le _, Nat.zero_le _⟩ (fun _ => (cw_ad _ _ _ _ _).trans (cw_ad _ _ _ _ _).symm) (fun r9 u8 H locs hpu8 hP hD hS => ?_)
      have hpu8 : r9 = bI false := hpu8
      subst hpu8
      have hP : va_P D vwCl (cw cy ad aw σ (ju_fa (ju_so (ju_en (ju_be J (nI (tB σ o))) (nI (tE σ o))) (nI (tK σ o))) (nI (tB σ o)))) H := hP
      have hD : va_D A (cw cy ad aw σ (ju_fa (ju_so (ju_en (ju_be J (nI (tB σ o))) (nI (tE σ o))) (nI (tK σ o))) (nI (tB σ o)))) := hD
      exact rw_z hx hb hr hlocks hS (ju_fa (ju_so (ju_en (ju_be J (nI (tB σ o))) (nI (tE σ o))) (nI (tK σ o))) (nI (tB σ o))) (RLP_f (f := tB σ o) (by rw [rLine, if_pos (Or.inr (by rw [hwd]; exact c18))]) (kp_fh (kpJ.rf J)) fa_r) hP dX2_readLine_25
def RDI (τ : Sg) (o : Nat) (pr : List (Nat × List Nat)) (J V : Js) : Prop := kpJ J V ∧ j_en V = nI o ∧ RTc τ V ∧ j_lc V = nI pr.length ∧ j_fa V = -1 ∧ ∀ i x, pr[i]? = some x → LJ V i x
def RDP (σ : Sg) (J u : Js) : Prop := kpJ J u ∧ match rRun σ 12 σ 0 with
  | .inl f => j_fa u = nI f
  | .inr r => j_fa u = -1 ∧ j_lc u = nI r.length ∧ ∀ i x, r[i]? = some x → LJ u i x
theorem RDP_f {σ : Sg} {f : Nat} {J u : Js} (h : rRun σ 12 σ 0 = .inl f) (hk : kpJ J u) (hf : j_fa u = nI f) : RDP σ J u := by rw [RDP, h]; exact ⟨hk, hf⟩
theorem RDP_t {σ : Sg} {r : List (Nat × List Nat)} {J u : Js} (h : rRun σ 12 σ 0 = .inr r) (hk : kpJ J u) (hf : j_fa u = -1) (h1 : j_lc u = nI r.length) (h2 : ∀ i x, r[i]? = some x → LJ u i x) : RDP σ J u := by rw [RDP, h]; exact ⟨hk, hf, h1, h2⟩
theorem LJ_s {V u : Js} {pr : List (Nat × List Nat)} {x : Nat × List Nat} (h : ∀ i y, pr[i]? = some y → LJ V i y) (h1 : LJ u pr.length x) (h2 : oth V u pr.length) : ∀ i y, (pr ++ [x])[i]? = some y → LJ u i y := by
  intro i y hy
  rcases (show i < pr.length ∨ pr.length ≤ i by omega) with q | q
  · rw [List.getElem?_append_left q] at hy
    have h3 := h i y hy
    have h4 := h2 i (by omega)
    exact ⟨h4.1.trans h3.1, fun a b hb => by rw [h4.2]; exact h3.2 a b hb⟩
  · rw [List.getElem?_append_right q] at hy
    rcases (show i - pr.length = 0 ∨ 0 < i - pr.length by omega) with z | z
    · rw [z] at hy; cases hy; rw [show i = pr.length by omega]; exact h1
    · rw [List.getElem?_eq_none (by show 1 ≤ _; omega)] at hy; cases hy
theorem RDI_0 {σ : Sg} {J : Js} : RDI σ 0 [] J (ju_rf (ju_rh (ju_rt (ju_fa (ju_lc (ju_en J (nI 0)) (nI 0)) (-1)) (nI (s_n σ))) (nI (whN σ))) (nI (s_m σ))) := by
  unfold RDI kpJ RTc
  dsimp only [jr_lw_rt, jr_lw_rh, jr_lw_rf, jr_lw_fa, jr_lw_lc, jr_lw_en, jr_nb_rt, jr_nb_rh, jr_nb_rf, jr_nb_fa, jr_nb_lc, jr_nb_en, jr_lc_rt, jr_lc_rh, jr_lc_rf, jr_lc_fa, jr_lc_lc, jr_lc_en, jr_fa_rt, jr_fa_rh, jr_fa_rf, jr_fa_fa, jr_fa_lc, jr_fa_en, jr_be_rt, jr_be_rh, jr_be_rf, jr_be_fa, jr_be_lc, jr_be_en, jr_en_rt, jr_en_rh, jr_en_rf, jr_en_fa, jr_en_lc, jr_en_en, jr_so_rt, jr_so_rh, jr_so_rf, jr_so_fa, jr_so_lc, jr_so_en, jr_rt_rt, jr_rt_rh, jr_rt_rf, jr_rt_fa, jr_rt_lc, jr_rt_en, jr_rh_rt, jr_rh_rh, jr_rh_rf, jr_rh_fa, jr_rh_lc, jr_rh_en, jr_rf_rt, jr_rf_rh, jr_rf_rf, jr_rf_fa, jr_rf_lc, jr_rf_en, jr_pe_rt, jr_pe_rh, jr_pe_rf, jr_pe_fa, jr_pe_lc, jr_pe_en, jr_wh_rt, jr_wh_rh, jr_wh_rf, jr_wh_fa, jr_wh_lc, jr_wh_en, jr_us_rt, jr_us_rh, jr_us_rf, jr_us_fa, jr_us_lc, jr_us_en, jr_pb_rt, jr_pb_rh, jr_pb_rf, jr_pb_fa, jr_pb_lc, jr_pb_en]
  exact ⟨⟨rfl, rfl, rfl, rfl⟩, rfl, ⟨rfl, rfl, rfl⟩, rfl, rfl, fun i x h => by cases h⟩
set_option maxHeartbeats 4000000 in
set_option maxRecDepth 100000 in
theorem k_X2_read (l : Launch) (D : va_G) (cy : Nat → ClassId) (ad aw aS aV aT : Nat → Nat) (σ : Sg) (J : Js)  (hw : wfS σ) (hj : wfJ σ J) : MVC l yX2_read qX2_read 7 [.ref (ad 8)] D cy (cw cy ad aw σ J) aw aS aV aT (RDP σ J) (fun u : Js => cw cy ad aw σ u) := by
  intro sz
  refine Met.ofW (cc := cX2_read) (maxL := 3) (ret := none) (by decide) rfl ?_
  intro p e s m args below meth c s₁ B hml hv
  obtain ⟨rfl, rfl, hP, hK, hN, hD0, hC⟩ := hv
  have hx := B.exec
  have hb := B.bytes
  have hr := B.returns
  have hlocks := B.notSynchronized
  have hts : ∀ cq ∈ tg, cq.before ([.ref (ad 8)] : List Value).toArray s = true := fun cq h => atoms_spec (ws := qX2_read) B.pre cq (List.mem_cons_of_mem _ h)
  have hown : s.vm.findClass RX2 = some m.cls := findClass_of_methodNamed B.named
  have hD := hD0.self (sz := s.heap.size)
  generalize hAe : va_A (cw cy ad aw σ J) s.heap.size = A at hD hC ⊢
  have hA : ∀ q : Nat, s.heap.size ≤ q → A q := fun q h => by rw [← hAe]; exact Or.inr h
  have hS : va_S A s.heap s.heap [] := va_S.rf
  have hl := lv_entry ([.ref (ad 8)]) (n := 3) (Nat.le_of_ble_eq_true rfl)
  rw [lg_entry_eq]
  generalize (lg_sl ([.ref (ad 8)]) ++ List.replicate (3 - (lg_sl ([.ref (ad 8)])).length) Slot.unset).toArray = ls at hl ⊢
  have hl : lv_has ls 3 [(0, .ref (ad 8))] := hl
  refine lv_aload_n hx hb dX2_read_0 rfl (lv_at hl 0 rfl) ?_
  refine lv_iconst (v := nI 0) hx hb dX2_read_1 (by decide) ?_
  refine ln_put (ci := 2) (C := RX2) (T := TX2) (N := 11) (ty := .int) (v := .int (nI (0))) hx hb hts ni2 tyX2 tyX2_ok nmX2 hown hK hP hD hS 8 (cw_c8 cy ad aw σ J) rfl 6 (by decide) (hts _ flX2_33) (fun _ h => h) rfl (by decide +kernel) rfl rfl (Nat.le_of_ble_eq_true rfl) (cp_8_6 cy ad aw σ J (nI (0))) dX2_read_2 (fun H locs hP hD hS => ?_)
  refine lv_aload_n hx hb dX2_read_5 rfl (lv_at hl 0 rfl) ?_
  refine lv_iconst (v := nI 0) hx hb dX2_read_6 (by decide) ?_
  refine ln_put (ci := 2) (C := RX2) (T := TX2) (N := 11) (ty := .int) (v := .int (nI (0))) hx hb hts ni2 tyX2 tyX2_ok nmX2 hown hK hP hD hS 8 (cw_c8 cy ad aw σ (ju_en J (nI (0)))) rfl 1 (by decide) (hts _ flX2_17) (fun _ h => h) rfl (by decide +kernel) rfl rfl (Nat.le_of_ble_eq_true rfl) (cp_8_1 cy ad aw σ (ju_en J (nI (0))) (nI (0))) dX2_read_7 (fun H locs hP hD hS => ?_)
  refine lv_aload_n hx hb dX2_read_10 rfl (lv_at hl 0 rfl) ?_
  refine lv_iconst (v := -1) hx hb dX2_read_11 (by decide) ?_
  refine ln_put (ci := 2) (C := RX2) (T := TX2) (N := 11) (ty := .int) (v := .int (-1)) hx hb hts ni2 tyX2 tyX2_ok nmX2 hown hK hP hD hS 8 (cw_c8 cy ad aw σ (ju_lc (ju_en J (nI (0))) (nI (0)))) rfl 2 (by decide) (hts _ flX2_21) (fun _ h => h) rfl (by decide +kernel) rfl rfl (Nat.le_of_ble_eq_true rfl) (cp_8_2 cy ad aw σ (ju_lc (ju_en J (nI (0))) (nI (0))) (-1)) dX2_read_12 (fun H locs hP hD hS => ?_)
  refine lv_aload_n hx hb dX2_read_15 rfl (lv_at hl 0 rfl) ?_
  refine lv_aload_n hx hb dX2_read_16 rfl (lv_at hl 0 rfl) ?_
  refine va_get (D := D) (ci := 2) (v := .ref (ad 3)) (C := RX2) (T := TX2) (N := 11) hx hb hts ni2 hown hK hP 8 (cw_c8 cy ad aw σ (ju_fa (ju_lc (ju_en J (nI (0))) (nI (0))) (-1))) rfl 4 (by decide) (hts _ flX2_28) (fun _ h => h) rfl dX2_read_17 ?_
  refine va_get (D := D) (ci := 3) (v := .int (nI (s_n σ))) (C := RX3) (T := TX3) (N := 9) hx hb hts ni3 hown hK hP 3 (cw_c3 cy ad aw σ (ju_fa (ju_lc (ju_en J (nI (0))) (nI (0))) (-1))) rfl 3 (by decide) (hts _ flX2_36) (fun _ h => h) rfl dX2_read_20 ?_
  refine ln_put (ci := 2) (C := RX2) (T := TX2) (N := 11) (ty := .int) (v := .int (nI (s_n σ))) hx hb hts ni2 tyX2 tyX2_ok nmX2 hown hK hP hD hS 8 (cw_c8 cy ad aw σ (ju_fa (ju_lc (ju_en J (nI (0))) (nI (0))) (-1))) rfl 8 (by decide) (hts _ flX2_41) (fun _ h => h) rfl (by decide +kernel) rfl rfl (Nat.le_of_ble_eq_true rfl) (cp_8_8 cy ad aw σ (ju_fa (ju_lc (ju_en J (nI (0))) (nI (0))) (-1)) (nI (s_n σ))) dX2_read_23 (fun H locs hP hD hS => ?_)
  refine lv_aload_n hx hb dX2_read_26 rfl (lv_at hl 0 rfl) ?_
  refine lv_aload_n hx hb dX2_read_27 rfl (lv_at hl 0 rfl) ?_
  refine va_get (D := D) (ci := 2) (v := .ref (ad 3)) (C := RX2) (T := TX2) (N := 11) hx hb hts ni2 hown hK hP 8 (cw_c8 cy ad aw σ (ju_rt (ju_fa (ju_lc (ju_en J (nI (0))) (nI (0))) (-1)) (nI (s_n σ)))) rfl 4 (by decide) (hts _ flX2_28) (fun _ h => h) rfl dX2_read_28 ?_
  refine va_get (D := D) (ci := 3) (v := .int (nI (j_wh J))) (C := RX3) (T := TX3) (N := 9) hx hb hts ni3 hown hK hP 3 (cw_c3 cy ad aw σ (ju_rt (ju_fa (ju_lc (ju_en J (nI (0))) (nI (0))) (-1)) (nI (s_n σ)))) rfl 6 (by decide) (hts _ flX2_44) (fun _ h => h) rfl dX2_read_31 ?_
  refine ln_nat (show j_wh J = whN σ from hj.2.1) ?_
  refine ln_put (ci := 2) (C := RX2) (T := TX2) (N := 11) (ty := .int) (v := .int (nI (whN σ))) hx hb hts ni2 tyX2 tyX2_ok nmX2 hown hK hP hD hS 8 (cw_c8 cy ad aw σ (ju_rt (ju_fa (ju_lc (ju_en J (nI (0))) (nI (0))) (-1)) (nI (s_n σ)))) rfl 9 (by decide) (hts _ flX2_47) (fun _ h => h) rfl (by decide +kernel) rfl rfl (Nat.le_of_ble_eq_true rfl) (cp_8_9 cy ad aw σ (ju_rt (ju_fa (ju_lc (ju_en J (nI (0))) (nI (0))) (-1)) (nI (s_n σ))) (nI (whN σ))) dX2_read_34 (fun H locs hP hD hS => ?_)
  refine lv_aload_n hx hb dX2_read_37 rfl (lv_at hl 0 rfl) ?_
  refine lv_aload_n hx hb dX2_read_38 rfl (lv_at hl 0 rfl) ?_
  refine va_get (D := D) (ci := 2) (v := .ref (ad 3)) (C := RX2) (T := TX2) (N := 11) hx hb hts ni2 hown hK hP 8 (cw_c8 cy ad aw σ (ju_rh (ju_rt (ju_fa (ju_lc (ju_en J (nI (0))) (nI (0))) (-1)) (nI (s_n σ))) (nI (whN σ)))) rfl 4 (by decide) (hts _ flX2_28) (fun _ h => h) rfl dX2_read_39 ?_
  refine va_get (D := D) (ci := 3) (v := .int (nI (s_m σ))) (C := RX3) (T := TX3) (N := 9) hx hb hts ni3 hown hK hP 3 (cw_c3 cy ad aw σ (ju_rh (ju_rt (ju_fa (ju_lc (ju_en J (nI (0))) (nI (0))) (-1)) (nI (s_n σ))) (nI (whN σ)))) rfl 4 (by decide) (hts _ flX2_48) (fun _ h => h) rfl dX2_read_42 ?_
  refine ln_put (ci := 2) (C := RX2) (T := TX2) (N := 11) (ty := .int) (v := .int (nI (s_m σ))) hx hb hts ni2 tyX2 tyX2_ok nmX2 hown hK hP hD hS 8 (cw_c8 cy ad aw σ (ju_rh (ju_rt (ju_fa (ju_lc (ju_en J (nI (0))) (nI (0))) (-1)) (nI (s_n σ))) (nI (whN σ)))) rfl 10 (by decide) (hts _ flX2_51) (fun _ h => h) rfl (by decide +kernel) rfl rfl (Nat.le_of_ble_eq_true rfl) (cp_8_10 cy ad aw σ (ju_rh (ju_rt (ju_fa (ju_lc (ju_en J (nI (0))) (nI (0))) (-1)) (nI (s_n σ))) (nI (whN σ))) (nI (s_m σ))) dX2_read_45 (fun H locs hP hD hS => ?_)
  refine lv_iconst (v := nI 1) hx hb dX2_read_48 (by decide) ?_
  refine lv_istore_n (lv' := [(1, .int (nI (1))), (0, .ref (ad 8))]) hx hb dX2_read_49 rfl hl (by decide) rfl (fun ls hl => ?_)
  refine lv_iconst (v := nI 0) hx hb dX2_read_50 (by decide) ?_
  refine lv_istore_n (lv' := [(2, .int (nI (0))), (1, .int (nI (1))), (0, .ref (ad 8))]) hx hb dX2_read_51 rfl hl (by decide) rfl (fun ls hl => ?_)
  have hex : ∀ (i : Nat) (V : Js) (H : Heap) (locs : List Loc) (ls : Array Slot), i ≤ 12 → RDP σ J V → va_P D vwCl (cw cy ad aw σ V) H → va_D A (cw cy ad aw σ V) → va_S A s.heap H locs → lv_has ls 3 [(2, .int (nI (i))), (1, .int (nI (0))), (0, .ref (ad 8))] → W p l e (headSpec qX2_read (rq 7)).room s m ([.ref (ad 8)] : List Value).toArray below meth c H locs 0 0 (MQ below (va_Qv (RDP σ J) (fun u t => va_P D vwCl ((fun u : Js => cw cy ad aw σ u) u) t.heap) A) ([.ref (ad 8)] : List Value).toArray s 0 0 A) (F0 m 52 ls []) := by
    intro i V H locs ls hi12 hR hP hD hS hl
    refine lv_iload_n hx hb dX2_read_52 rfl (lv_at hl 0 rfl) ?_
    refine lv_bipush (v := nI 12) hx hb dX2_read_53 (by decide) ?_
    refine ln_icmp_ge (tgt := 94) hx hb dX2_read_55 (by decide) (by omega) (by omega) (fun c55 => ?_) (fun c55 => ?_)
    · exact rw_v hx hb hr hlocks hS V (hR) hP dX2_read_94
    · refine lv_iload_n hx hb dX2_read_58 rfl (lv_at hl 1 rfl) ?_
      refine lv_if_eq (tgt := 94) hx hb dX2_read_59 (by decide) (fun _ => ?_) (fun c => absurd rfl c)
      exact rw_v hx hb hr hlocks hS V (hR) hP dX2_read_94
  have wl : ∀ (k : Nat) (τ : Sg) (o : Nat) (pr : List (Nat × List Nat)) (V : Js) (H : Heap) (locs : List Loc) (ls : Array Slot), pr.length + k = 12 → 0 < k → wf1 τ → o ≤ s_ln σ → RDI τ o pr J V → rRun σ 12 σ 0 = glu pr (rRun σ k τ o) → va_P D vwCl (cw cy ad aw σ V) H → va_D A (cw cy ad aw σ V) → va_S A s.heap H locs → lv_has ls 3 [(2, .int (nI (pr.length))), (1, .int (nI (1))), (0, .ref (ad 8))] → W p l e (headSpec qX2_read (rq 7)).room s m ([.ref (ad 8)] : List Value).toArray below meth c H locs 0 0 (MQ below (va_Qv (RDP σ J) (fun u t => va_P D vwCl ((fun u : Js => cw cy ad aw σ u) u) t.heap) A) ([.ref (ad 8)] : List Value).toArray s 0 0 A) (F0 m 52 ls []) := by
    intro k
    induction k with
    | zero => exact fun τ o pr V H locs ls _ h => absurd h (by omega)
    | succ k ih =>
      intro τ o pr V H locs ls hk _ hwf ho hV hru hP hD hS hl
      refine lv_iload_n hx hb dX2_read_52 rfl (lv_at hl 0 rfl) ?_
      refine lv_bipush (v := nI 12) hx hb dX2_read_53 (by decide) ?_
      refine ln_icmp_ge (tgt := 94) hx hb dX2_read_55 (by decide) (by omega) (by omega) (fun c55 => ?_) (fun c55 => ?_)
      · exact absurd c55 (by omega)
      · refine lv_iload_n hx hb dX2_read_58 rfl (lv_at hl 1 rfl) ?_
        refine lv_if_eq (tgt := 94) hx hb dX2_read_59 (by decide) (fun c => absurd c (by decide)) (fun _ => ?_)
        refine lv_aload_n hx hb dX2_read_62 rfl (lv_at hl 2 rfl) ?_
        refine lv_aload_n hx hb dX2_read_63 rfl (lv_at hl 2 rfl) ?_
        refine va_get (D := D) (ci := 2) (v := .ref (ad 9)) (C := RX2) (T := TX2) (N := 11) hx hb hts ni2 hown hK hP 8 (cw_c8 cy ad aw σ V) rfl 0 (by decide) (hts _ flX2_11) (fun _ h => h) rfl dX2_read_64 ?_
        refine lv_iload_n hx hb dX2_read_67 rfl (lv_at hl 0 rfl) ?_
        refine ln_aald (x := ad (34 + pr.length)) hx hb hK hP 9 3 (cw_c9 cy ad aw σ V) rfl (by omega) (by decide) rfl dX2_read_68 ?_
        refine kw_w (n := 1) (As := [.ref (ad (34 + pr.length))]) (rest := []) ⟨hx, hb, hml, hown, hts⟩ (k_X2_readLine l D cy ad aw aS aV aT σ V τ o pr.length hw ho hV.2.1 hV.2.2.1 hwf hV.2.2.2.1 (by omega)) gvX2_54 (by decide +kernel) ⟨Nat.le_of_ble_eq_true rfl, Nat.le_of_ble_eq_true rfl⟩ hK hN hP hD hS hA hC 8 (cw_c8 cy ad aw σ V) rfl rfl hl.1 rfl (Nat.le_of_ble_eq_true rfl) dX2_read_69 ⟨Nat.zero_le _, Nat.zero_le _⟩ (fun _ => (cw_ad _ _ _ _ _).trans (cw_ad _ _ _ _ _).symm) (fun r2 u1 H locs hpu1 hP hD hS => ?_)
        have hP : va_P D vwCl (cw cy ad aw σ u1) H := hP
        have hD : va_D A (cw cy ad aw σ u1) := hD
        rcases hL : rLine σ τ o with f | x
        · have hz := hpu1
          rw [RLP, hL] at hz
          obtain ⟨hku, rfl, hfa1⟩ := hz
          refine lb_if_eq (tgt := 86) hx hb dX2_read_72 (by decide) (fun _ => ?_) (fun c => absurd c (by decide))
          refine lv_iconst (v := nI 0) hx hb dX2_read_86 (by decide) ?_
          refine lv_istore_n (lv' := [(1, .int (nI (0))), (2, .int (nI (pr.length))), (0, .ref (ad 8))]) hx hb dX2_read_87 rfl hl (by decide) rfl (fun ls hl => ?_)
          refine ln_iinc (lv' := [(2, .int (nI (pr.length + 1))), (1, .int (nI (0))), (0, .ref (ad 8))]) hx hb dX2_read_88 hl (k := 1) (n := 1) rfl (by decide) rfl (fun ls hl => ?_)
          refine lv_goto (tgt := 52) hx hb dX2_read_91 (by decide) ?_
          exact hex (pr.length + 1) u1 _ _ ls (by omega) (RDP_f (f := f) (by rw [hru, rRun_f hL]; rfl) (hV.1.trans hku) hfa1) hP hD hS (lv_sub hl [0, 1, 2] rfl)
        · have hz := hpu1
          rw [RLP, hL] at hz
          obtain ⟨hku, rfl, hen1, hRT1, hlc1, hfa1, hLJ, hoth⟩ := hz
          have hxl := rLine_le ho hL
          have okx := rLine_ok hwf.1 hwf.2.1 hL
          refine lb_if_eq (tgt := 86) hx hb dX2_read_72 (by decide) (fun c => absurd c (by decide)) (fun _ => ?_)
          refine lv_aload_n hx hb dX2_read_75 rfl (lv_at hl 2 rfl) ?_
          refine cr_w (n := 0) (As := []) (rest := []) ⟨hx, hb, hml, hown, hts⟩ (k_X2_readSemicolon l D cy ad aw σ u1 x.1 (pr.length + 1) hw hxl hen1 hlc1 (by omega)) gvX2_58 (by decide +kernel) ⟨Nat.le_of_ble_eq_true rfl, Nat.le_of_ble_eq_true rfl⟩ hK hN hP hD hS hA 8 (cw_c8 cy ad aw σ u1) rfl rfl hl.1 rfl (Nat.le_of_ble_eq_true rfl) dX2_read_76 ⟨Nat.zero_le _, Nat.zero_le _⟩ (fun _ => (cw_ad _ _ _ _ _).trans (cw_ad _ _ _ _ _).symm) (fun r4 u3 H locs hpu3 hP hD hS => ?_)
          have hP : va_P D vwCl (cw cy ad aw σ u3) H := hP
          have hD : va_D A (cw cy ad aw σ u3) := hD
          rcases hpu3 with ⟨z1, rfl, rfl⟩ | ⟨z1, z2, rfl, rfl⟩ | ⟨z1, z2, rfl, rfl⟩
          · refine lb_if_eq (tgt := 86) hx hb dX2_read_79 (by decide) (fun _ => ?_) (fun c => absurd c (by decide))
            refine lv_iconst (v := nI 0) hx hb dX2_read_86 (by decide) ?_
            refine lv_istore_n (lv' := [(1, .int (nI (0))), (2, .int (nI (pr.length))), (0, .ref (ad 8))]) hx hb dX2_read_87 rfl hl (by decide) rfl (fun ls hl => ?_)
            refine ln_iinc (lv' := [(2, .int (nI (pr.length + 1))), (1, .int (nI (0))), (0, .ref (ad 8))]) hx hb dX2_read_88 hl (k := 1) (n := 1) rfl (by decide) rfl (fun ls hl => ?_)
            refine lv_goto (tgt := 52) hx hb dX2_read_91 (by decide) ?_
            exact hex (pr.length + 1) (tkJ σ x.1 u1) _ _ ls (by omega) (RDP_t (r := pr ++ [x.2]) (by rw [hru, rRun_x hL, if_pos z1]; rfl) (kp_tk (hV.1.trans hku)) (tk_r.1.trans (hfa1.trans hV.2.2.2.2.1)) (by rw [List.length_append]; exact tk_r.2.1.trans hlc1) (fun a b c => LJ_tk (LJ_s hV.2.2.2.2.2 hLJ hoth a b c))) hP hD hS (lv_sub hl [0, 1, 2] rfl)
          · refine lb_if_eq (tgt := 86) hx hb dX2_read_79 (by decide) (fun c => absurd c (by decide)) (fun _ => ?_)
            refine lv_iconst (v := nI 1) hx hb dX2_read_82 (by decide) ?_
            refine lv_goto (tgt := 87) hx hb dX2_read_83 (by decide) ?_
            refine lv_istore_n (lv' := [(1, .int (nI (1))), (2, .int (nI (pr.length))), (0, .ref (ad 8))]) hx hb dX2_read_87 rfl hl (by decide) rfl (fun ls hl => ?_)
            refine ln_iinc (lv' := [(2, .int (nI (pr.length + 1))), (1, .int (nI (1))), (0, .ref (ad 8))]) hx hb dX2_read_88 hl (k := 1) (n := 1) rfl (by decide) rfl (fun ls hl => ?_)
            refine lv_goto (tgt := 52) hx hb dX2_read_91 (by decide) ?_
            have hk0 : 0 < k := by omega
            exact ih (doL τ x.2.1 x.2.2) (tE σ x.1) (pr ++ [x.2]) (tkJ σ x.1 u1) _ _ ls (by rw [List.length_append]; show pr.length + 1 + k = 12; omega) hk0 (wf1_do hwf okx) (tE_le hxl) ⟨kp_tk (hV.1.trans hku), tk_r.2.2.1, hRT1.tk, by rw [List.length_append]; exact tk_r.2.1.trans hlc1, tk_r.1.trans (hfa1.trans hV.2.2.2.2.1), fun a b c => LJ_tk (LJ_s hV.2.2.2.2.2 hLJ hoth a b c)⟩ (by rw [hru, rRun_x hL, if_neg (fun z => by rw [z] at z1; exact absurd z1 (by decide)), if_pos ⟨z1, hk0⟩, glu_cons]) hP hD hS (by rw [List.length_append]; exact lv_sub hl [0, 1, 2] rfl)
          · refine lb_if_eq (tgt := 86) hx hb dX2_read_79 (by decide) (fun _ => ?_) (fun c => absurd c (by decide))
            refine lv_iconst (v := nI 0) hx hb dX2_read_86 (by decide) ?_
            refine lv_istore_n (lv' := [(1, .int (nI (0))), (2, .int (nI (pr.length))), (0, .ref (ad 8))]) hx hb dX2_read_87 rfl hl (by decide) rfl (fun ls hl => ?_)
            refine ln_iinc (lv' := [(2, .int (nI (pr.length + 1))), (1, .int (nI (0))), (0, .ref (ad 8))]) hx hb dX2_read_88 hl (k := 1) (n := 1) rfl (by decide) rfl (fun ls hl => ?_)
            refine lv_goto (tgt := 52) hx hb dX2_read_91 (by decide) ?_
            exact hex (pr.length + 1) (ju_fa (tkJ σ x.1 u1) (nI (tB σ x.1))) _ _ ls (by omega) (RDP_f (f := tB σ x.1) (by rw [hru, rRun_x hL, if_neg z1, if_neg (fun z => z2 ⟨z.1, by omega⟩)]; rfl) (kp_fh (hV.1.trans hku)) fa_r) hP hD hS (lv_sub hl [0, 1, 2] rfl)
  exact wl 12 σ 0 [] _ _ _ ls rfl (by decide) (wf1_of hw) (Nat.zero_le _) RDI_0 (by cases rRun σ 12 σ 0 <;> rfl) hP hD hS (lv_sub hl [0, 1, 2] rfl)
