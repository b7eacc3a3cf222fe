def nf (g : Nat → Nat) : Nat → Int32 := fun i => nI (g i)
theorem nf_upd (g : Nat → Nat) (i v : Nat) : upd (nf g) i (nI v) = nf (updN g i v) := by
  funext j
  unfold upd nf updN
  split <;> rfl
theorem nI_all (x : Int32) : ∃ k, x = nI k := ⟨x.toBitVec.toNat, by
  apply Int32.toBitVec_inj.1
  show x.toBitVec = BitVec.ofNat 32 x.toBitVec.toNat
  rw [BitVec.ofNat_toNat, BitVec.setWidth_eq]⟩
theorem nf_all (g : Nat → Int32) : ∃ h, g = nf h := ⟨fun i => (nI_all (g i)).choose, funext fun i => (nI_all (g i)).choose_spec⟩
section SV
variable {p : Program} {l : Launch} {e : Env} {R : Room} {s : State} {m : MethodId} {args : Array Value} {below : List Frame} {meth : Method} {c : Code} {H : Heap} {locs : List Loc} {cells slots : Nat} {Q : State → Prop} {cc : ByteArray} {pc : Nat} {ls : Array Slot} {rest : List Value} {D : va_G} {cy : Nat → ClassId} {ws : va_W} {n : Nat} {A : Nat → Prop} {H0 : Heap} {nL maxL index : Nat} {own : String} {y : MethodName} {bytes : ByteArray} {rt : Option FieldType} {d : Nat} {As st0 : List Value}
theorem cr_sv {S : Type} {post : S → Prop} {wd : S → va_W} (S0 : CallFix p m c cc nL s args tg own) (hM : MV l y (Cond.code y bytes maxL rt :: tg) d As D cy ws post wd) (hl : (Cond.methodLink own index y).before args s = true) (hst : (Cond.static y).before args s = true) (hini : (Cond.initialized y.cls).before args s = true) (hG : GoodIn tg (Cond.code y bytes maxL rt :: tg)) (hd : y.cls ≠ "java/lang/invoke/MethodHandle" ∧ y.cls ≠ "java/lang/invoke/VarHandle" ∧ (parseMethodDescriptor y.desc).map (fun d => d.parameters.length) = some n) (hR : d + 1 ≤ R.frames ∧ 8 + (maxL + 11) + 40 * d ≤ R.locals) (hK : va_K D vwCl (tyL cy) s) (hN : kN s) (hP : va_P D vwCl ws H) (hD : va_D A ws) (hS : va_S A H0 H locs) (hA : ∀ q, H0.size ≤ q → A q) (hn : As.length = n) (hsize : ls.size = nL) (hstack : st0 = As.reverse ++ rest) (hW : (rest.map fun v => v.category).sum ≤ 8) (hdg : decode cc pc = .ok (.invokestatic index, 3)) (hcs : cells ≤ R.cells ∧ slots ≤ R.slots) (hmap : ∀ u, (wd u).map (·.1) = ws.map (·.1)) (kk : ∀ (u : S) (H1 : Heap) (locs1 : List Loc), post u → va_P D vwCl (wd u) H1 → va_D A (wd u) → va_S A H0 H1 locs1 → W p l e R s m args below meth c H1 locs1 cells slots Q (F0 m (pc + 3) ls rest)) : W p l e R s m args below meth c H locs cells slots Q (F0 m pc ls st0) :=
  va_callv (va_runS (As := As) (rest := rest) S0 (hM H.size) ⟨callB_of n S0.2.2.2.2 hG rfl rfl rfl hini hl hd hR, hst⟩ ⟨fun a U g mk q => ⟨q.1, q.2.1, q.2.2.1, va_K.moved (u := U) (U := U.calling g mk a) (Vm.Alike.refl U.vm) q.2.2.2.1, kN.same (s := U) (U := U.calling g mk a) rfl q.2.2.2.2.1, q.2.2.2.2.2⟩, fun U hU hW => ⟨rfl, by rw [hU], by rw [hU]; exact hP, va_K.moved hW.alike hK, kN.warm hW hN, hD.weaken (fun _ _ _ _ => trivial)⟩⟩ rfl hn hsize hstack (lv_room hW) hdg hcs) hS (fun q _ h => fr_all hD hS hA q h) (fr_all hD hS hA) (fun u t H1 locs1 ht _ hp hB _ _ hS1 => kk u H1 locs1 hp (by rw [← ht]; exact hB) (va_D_map (hmap u) hD) hS1)
end SV
set_option maxHeartbeats 4000000 in
set_option maxRecDepth 100000 in
theorem k_J7_fill_53178 (l : Launch) (D : va_G) (cy : Nat → ClassId) (ad aw : Nat → Nat) (σ : Sg) (J : Js) (fi fc co cb wa hd tl : Nat → Nat) (v : Nat)  : MV l yJ7_fill_53178 qJ7_fill_53178 0 [.ref (ad 14), .int (nI (v))] D cy (cw cy ad aw σ (ju_tl (ju_hd (ju_wa (ju_cb (ju_co (ju_fc (ju_fi J (nf fi)) (nf fc)) (nf co)) (nf cb)) (nf wa)) (nf hd)) (nf tl))) (fun g : Nat → Nat => ∀ i, i < 2048 → g i = v) (fun g : Nat → Nat => cw cy ad aw σ (ju_tl (ju_hd (ju_wa (ju_cb (ju_co (ju_fc (ju_fi J (nf fi)) (nf fc)) (nf g)) (nf cb)) (nf wa)) (nf hd)) (nf tl))) := by
  intro sz
  refine Met.ofW (cc := cJ7_fill_53178) (maxL := 4) (ret := none) (by decide) rfl ?_
  intro p e s m args below meth c s₁ B hml hv
  obtain ⟨rfl, rfl, hP, hK, hN, hD0⟩ := hv
  have hx := B.exec
  have hb := B.bytes
  have hr := B.returns
  have hlocks := B.notSynchronized
  have hts : ∀ cq ∈ tg, cq.before ([.ref (ad 14), .int (nI (v))] : List Value).toArray s = true := fun cq h => atoms_spec (ws := qJ7_fill_53178) B.pre cq (List.mem_cons_of_mem _ h)
  have hown : s.vm.findClass RJ7 = some m.cls := findClass_of_methodNamed B.named
  have hD := hD0.self (sz := s.heap.size)
  generalize hAe : va_A (cw cy ad aw σ (ju_tl (ju_hd (ju_wa (ju_cb (ju_co (ju_fc (ju_fi J (nf fi)) (nf fc)) (nf co)) (nf cb)) (nf wa)) (nf hd)) (nf tl))) s.heap.size = A at hD ⊢
  have hA : ∀ q : Nat, s.heap.size ≤ q → A q := fun q h => by rw [← hAe]; exact Or.inr h
  have hS : va_S A s.heap s.heap [] := va_S.rf
  have hl := lv_entry ([.ref (ad 14), .int (nI (v))]) (n := 4) (Nat.le_of_ble_eq_true rfl)
  rw [lg_entry_eq]
  generalize (lg_sl ([.ref (ad 14), .int (nI (v))]) ++ List.replicate (4 - (lg_sl ([.ref (ad 14), .int (nI (v))])).length) Slot.unset).toArray = ls at hl ⊢
  have hl : lv_has ls 4 [(0, .ref (ad 14)), (1, .int (nI (v)))] := hl
  refine lv_iconst (v := nI 0) hx hb dJ7_fill_53178_0 (by decide) ?_
  refine lv_istore_n (lv' := [(2, .int (nI (0))), (0, .ref (ad 14)), (1, .int (nI (v)))]) hx hb dJ7_fill_53178_1 rfl hl (by decide) rfl (fun ls hl => ?_)
  refine lv_aload_n hx hb dJ7_fill_53178_2 rfl (lv_at hl 1 rfl) ?_
  refine ln_alen (n := 2048) hx hb hK hP 14 0 (cw_c14 cy ad aw σ (ju_tl (ju_hd (ju_wa (ju_cb (ju_co (ju_fc (ju_fi J (nf fi)) (nf fc)) (nf co)) (nf cb)) (nf wa)) (nf hd)) (nf tl))) rfl rfl dJ7_fill_53178_3 ?_
  refine lv_istore_n (lv' := [(3, .int (nI (2048))), (2, .int (nI (0))), (0, .ref (ad 14)), (1, .int (nI (v)))]) hx hb dJ7_fill_53178_4 rfl hl (by decide) rfl (fun ls hl => ?_)
  have lp : ∀ (k_lp i : Nat) (ls : Array Slot) (H : Heap) (locs : List Loc) (g : Nat → Nat), i + k_lp = 2048 → (∀ j, j < i → g j = v) → va_P D vwCl (cw cy ad aw σ (ju_tl (ju_hd (ju_wa (ju_cb (ju_co (ju_fc (ju_fi J (nf fi)) (nf fc)) (nf g)) (nf cb)) (nf wa)) (nf hd)) (nf tl))) H → va_D A (cw cy ad aw σ (ju_tl (ju_hd (ju_wa (ju_cb (ju_co (ju_fc (ju_fi J (nf fi)) (nf fc)) (nf g)) (nf cb)) (nf wa)) (nf hd)) (nf tl))) → va_S A s.heap H locs → lv_has ls 4 [(2, .int (nI (i))), (3, .int (nI (2048))), (0, .ref (ad 14)), (1, .int (nI (v)))] → W p l e (headSpec qJ7_fill_53178 (rq 0)).room s m ([.ref (ad 14), .int (nI (v))] : List Value).toArray below meth c H locs 0 0 (MQ below (va_Qv (fun g : Nat → Nat => ∀ i, i < 2048 → g i = v) (fun u t => va_P D vwCl ((fun g : Nat → Nat => cw cy ad aw σ (ju_tl (ju_hd (ju_wa (ju_cb (ju_co (ju_fc (ju_fi J (nf fi)) (nf fc)) (nf g)) (nf cb)) (nf wa)) (nf hd)) (nf tl))) u) t.heap) A) ([.ref (ad 14), .int (nI (v))] : List Value).toArray s 0 0 A) (F0 m 5 ls []) := by
    intro k_lp
    induction k_lp with
    | zero =>
      intro i ls H locs g hi_lp hg hP hD hS hl
      refine lv_iload_n hx hb dJ7_fill_53178_5 rfl (lv_at hl 0 rfl) ?_
      refine lv_iload_n hx hb dJ7_fill_53178_6 rfl (lv_at hl 1 rfl) ?_
      refine ln_icmp_ge (tgt := 20) hx hb dJ7_fill_53178_7 (by decide) (by omega) (by omega) (fun c7 => ?_) (fun c7 => ?_)
      · exact rw_v hx hb hr hlocks hS g (fun i hi => hg i (by omega)) hP dJ7_fill_53178_20
      · exact absurd c7 (by omega)
    | succ k_lp ih_lp =>
      intro i ls H locs g hi_lp hg hP hD hS hl
      refine lv_iload_n hx hb dJ7_fill_53178_5 rfl (lv_at hl 0 rfl) ?_
      refine lv_iload_n hx hb dJ7_fill_53178_6 rfl (lv_at hl 1 rfl) ?_
      refine ln_icmp_ge (tgt := 20) hx hb dJ7_fill_53178_7 (by decide) (by omega) (by omega) (fun c7 => ?_) (fun c7 => ?_)
      · exact absurd c7 (by omega)
      · refine lv_aload_n hx hb dJ7_fill_53178_10 rfl (lv_at hl 2 rfl) ?_
        refine lv_iload_n hx hb dJ7_fill_53178_11 rfl (lv_at hl 0 rfl) ?_
        refine lv_iload_n hx hb dJ7_fill_53178_12 rfl (lv_at hl 3 rfl) ?_
        refine ln_iast hx hb hK hP hD hS 14 (cw_c14 cy ad aw σ (ju_tl (ju_hd (ju_wa (ju_cb (ju_co (ju_fc (ju_fi J (nf fi)) (nf fc)) (nf g)) (nf cb)) (nf wa)) (nf hd)) (nf tl))) (by omega) (by decide) ((cp_14 cy ad aw σ (ju_tl (ju_hd (ju_wa (ju_cb (ju_co (ju_fc (ju_fi J (nf fi)) (nf fc)) (nf g)) (nf cb)) (nf wa)) (nf hd)) (nf tl)) i (nI (v))).trans (congrArg (fun z => cw cy ad aw σ z) (by rw [show upd (j_co (ju_tl (ju_hd (ju_wa (ju_cb (ju_co (ju_fc (ju_fi J (nf fi)) (nf fc)) (nf g)) (nf cb)) (nf wa)) (nf hd)) (nf tl))) i (nI v) = nf (updN g i v) from nf_upd _ _ _, jx_co_tl, jx_co_hd, jx_co_wa, jx_co_cb, jc_co]))) dJ7_fill_53178_13 (fun H locs hP hD hS => ?_)
        refine ln_iinc (lv' := [(2, .int (nI (i + 1))), (3, .int (nI (2048))), (0, .ref (ad 14)), (1, .int (nI (v)))]) hx hb dJ7_fill_53178_14 hl (k := 0) (n := 1) rfl (by decide) rfl (fun ls hl => ?_)
        refine lv_goto (tgt := 5) hx hb dJ7_fill_53178_17 (by decide) ?_
        have hl : lv_has ls 4 [(2, .int (nI (i + 1))), (3, .int (nI (2048))), (0, .ref (ad 14)), (1, .int (nI (v)))] := lv_sub hl [0, 1, 2, 3] rfl
        exact ih_lp (i + 1) ls _ _ _ (by omega) (fun j hj => by unfold updN; by_cases e : j = i; rw [if_pos e]; rw [if_neg e]; exact hg j (by omega)) hP hD hS hl
  have hl : lv_has ls 4 [(2, .int (nI (0))), (3, .int (nI (2048))), (0, .ref (ad 14)), (1, .int (nI (v)))] := lv_sub hl [1, 0, 2, 3] rfl
  exact lp (2048 - 0) 0 ls _ _ co (by omega) (fun j hj => absurd hj (by omega)) hP hD hS hl
def fcC (fc : Nat → Nat) (i : Nat) : Nat → Nat := fun j => if j < i then 0 else fc j
def hdC (hd : Nat → Nat) (i : Nat) : Nat → Nat := fun j => if j < i then j * 2048 else hd j
theorem fcC_s (fc : Nat → Nat) (i : Nat) : updN (fcC fc i) i 0 = fcC fc (i + 1) := by
  funext j; unfold updN fcC
  by_cases e : j = i
  · rw [if_pos e, if_pos (by omega)]
  · rw [if_neg e]; by_cases q : j < i
    · rw [if_pos q, if_pos (by omega)]
    · rw [if_neg q, if_neg (by omega)]
theorem hdC_s (hd : Nat → Nat) (i : Nat) : updN (hdC hd i) i (i * 2048) = hdC hd (i + 1) := by
  funext j; unfold updN hdC
  by_cases e : j = i
  · rw [if_pos e, if_pos (by omega), e]
  · rw [if_neg e]; by_cases q : j < i
    · rw [if_pos q, if_pos (by omega)]
    · rw [if_neg q, if_neg (by omega)]
theorem fcC_0 (fc : Nat → Nat) : fcC fc 0 = fc := rfl
set_option maxHeartbeats 4000000 in
set_option maxRecDepth 100000 in
theorem k_X4_clear (l : Launch) (D : va_G) (cy : Nat → ClassId) (ad aw : Nat → Nat) (σ : Sg) (J : Js) (fi fc co cb wa hd tl : Nat → Nat)  : MV l yX4_clear qX4_clear 1 [.ref (ad 11)] D cy (cw cy ad aw σ (ju_tl (ju_hd (ju_wa (ju_cb (ju_co (ju_fc (ju_fi J (nf fi)) (nf fc)) (nf co)) (nf cb)) (nf wa)) (nf hd)) (nf tl))) (fun g : Nat → Nat => ∀ i, i < 2048 → g i = 1048576) (fun g : Nat → Nat => cw cy ad aw σ (ju_tl (ju_hd (ju_wa (ju_cb (ju_co (ju_fc (ju_fi J (nf fi)) (nf (fcC fc 3))) (nf g)) (nf cb)) (nf wa)) (nf (hdC hd 3))) (nf (hdC tl 3)))) := by
  intro sz
  refine Met.ofW (cc := cX4_clear) (maxL := 2) (ret := none) (by decide) rfl ?_
  intro p e s m args below meth c s₁ B hml hv
  obtain ⟨rfl, rfl, hP, hK, hN, hD0⟩ := hv
  have hx := B.exec
  have hb := B.bytes
  have hr := B.returns
  have hlocks := B.notSynchronized
  have hts : ∀ cq ∈ tg, cq.before ([.ref (ad 11)] : List Value).toArray s = true := fun cq h => atoms_spec (ws := qX4_clear) B.pre cq (List.mem_cons_of_mem _ h)
  have hown : s.vm.findClass RX4 = some m.cls := findClass_of_methodNamed B.named
  have hD := hD0.self (sz := s.heap.size)
  generalize hAe : va_A (cw cy ad aw σ (ju_tl (ju_hd (ju_wa (ju_cb (ju_co (ju_fc (ju_fi J (nf fi)) (nf fc)) (nf co)) (nf cb)) (nf wa)) (nf hd)) (nf tl))) s.heap.size = A at hD ⊢
  have hA : ∀ q : Nat, s.heap.size ≤ q → A q := fun q h => by rw [← hAe]; exact Or.inr h
  have hS : va_S A s.heap s.heap [] := va_S.rf
  have hl := lv_entry ([.ref (ad 11)]) (n := 2) (Nat.le_of_ble_eq_true rfl)
  rw [lg_entry_eq]
  generalize (lg_sl ([.ref (ad 11)]) ++ List.replicate (2 - (lg_sl ([.ref (ad 11)])).length) Slot.unset).toArray = ls at hl ⊢
  have hl : lv_has ls 2 [(0, .ref (ad 11))] := hl
  refine lv_iconst (v := nI 0) hx hb dX4_clear_0 (by decide) ?_
  refine lv_istore_n (lv' := [(1, .int (nI (0))), (0, .ref (ad 11))]) hx hb dX4_clear_1 rfl hl (by decide) rfl (fun ls hl => ?_)
  have lp : ∀ (k_lp i : Nat) (ls : Array Slot) (H : Heap) (locs : List Loc) , i + k_lp = 3 → va_P D vwCl (cw cy ad aw σ (ju_tl (ju_hd (ju_wa (ju_cb (ju_co (ju_fc (ju_fi J (nf fi)) (nf (fcC fc i))) (nf co)) (nf cb)) (nf wa)) (nf (hdC hd i))) (nf (hdC tl i)))) H → va_D A (cw cy ad aw σ (ju_tl (ju_hd (ju_wa (ju_cb (ju_co (ju_fc (ju_fi J (nf fi)) (nf (fcC fc i))) (nf co)) (nf cb)) (nf wa)) (nf (hdC hd i))) (nf (hdC tl i)))) → va_S A s.heap H locs → lv_has ls 2 [(1, .int (nI (i))), (0, .ref (ad 11))] → W p l e (headSpec qX4_clear (rq 1)).room s m ([.ref (ad 11)] : List Value).toArray below meth c H locs 0 0 (MQ below (va_Qv (fun g : Nat → Nat => ∀ i, i < 2048 → g i = 1048576) (fun u t => va_P D vwCl ((fun g : Nat → Nat => cw cy ad aw σ (ju_tl (ju_hd (ju_wa (ju_cb (ju_co (ju_fc (ju_fi J (nf fi)) (nf (fcC fc 3))) (nf g)) (nf cb)) (nf wa)) (nf (hdC hd 3))) (nf (hdC tl 3)))) u) t.heap) A) ([.ref (ad 11)] : List Value).toArray s 0 0 A) (F0 m 2 ls []) := by
    intro k_lp
    induction k_lp with
    | zero =>
      intro i ls H locs hi_lp hP hD hS hl
      refine lv_iload_n hx hb dX4_clear_2 rfl (lv_at hl 0 rfl) ?_
      refine lv_iconst (v := nI 3) hx hb dX4_clear_3 (by decide) ?_
      refine ln_icmp_ge (tgt := 42) hx hb dX4_clear_4 (by decide) (by omega) (by omega) (fun c4 => ?_) (fun c4 => ?_)
      · refine lv_aload_n hx hb dX4_clear_42 rfl (lv_at hl 1 rfl) ?_
        refine va_get (D := D) (ci := 4) (v := .ref (ad 14)) (C := RX4) (T := TX4) (N := 8) hx hb hts ni4 hown hK hP 11 (cw_c11 cy ad aw σ (ju_tl (ju_hd (ju_wa (ju_cb (ju_co (ju_fc (ju_fi J (nf fi)) (nf (fcC fc i))) (nf co)) (nf cb)) (nf wa)) (nf (hdC hd i))) (nf (hdC tl i)))) rfl 3 (by decide) (hts _ flX4_18) (fun _ h => h) rfl dX4_clear_43 ?_
        refine lv_ldc (v := nI 1048576) hx hb hown (hts _ cnX4_87) dX4_clear_46 ?_
        refine cr_sv (n := 2) (As := [.ref (ad 14), .int (nI (1048576))]) (rest := []) ⟨hx, hb, hml, hown, hts⟩ (k_J7_fill_53178 l D cy ad aw σ J fi (fcC fc i) co cb wa (hdC hd i) (hdC tl i) 1048576) (hts _ mlX4_88) (hts _ smJ7_fill_53178) (hts _ iniJ7) (gc_of cdJ7_fill_53178) (by decide +kernel) ⟨Nat.le_of_ble_eq_true rfl, Nat.le_of_ble_eq_true rfl⟩ hK hN hP hD hS hA rfl hl.1 rfl (Nat.le_of_ble_eq_true rfl) dX4_clear_48 ⟨Nat.zero_le _, Nat.zero_le _⟩ (fun _ => (cw_ad _ _ _ _ _).trans (cw_ad _ _ _ _ _).symm) (fun u1 H locs hpu1 hP hD hS => ?_)
        have hP : va_P D vwCl (cw cy ad aw σ (ju_tl (ju_hd (ju_wa (ju_cb (ju_co (ju_fc (ju_fi J (nf fi)) (nf (fcC fc i))) (nf u1)) (nf cb)) (nf wa)) (nf (hdC hd i))) (nf (hdC tl i)))) H := hP
        have hD : va_D A (cw cy ad aw σ (ju_tl (ju_hd (ju_wa (ju_cb (ju_co (ju_fc (ju_fi J (nf fi)) (nf (fcC fc i))) (nf u1)) (nf cb)) (nf wa)) (nf (hdC hd i))) (nf (hdC tl i)))) := hD
        exact rw_v hx hb hr hlocks hS u1 (hpu1) (by rw [show i = 3 by omega] at hP; exact hP) dX4_clear_51
      · exact absurd c4 (by omega)
    | succ k_lp ih_lp =>
      intro i ls H locs hi_lp hP hD hS hl
      refine lv_iload_n hx hb dX4_clear_2 rfl (lv_at hl 0 rfl) ?_
      refine lv_iconst (v := nI 3) hx hb dX4_clear_3 (by decide) ?_
      refine ln_icmp_ge (tgt := 42) hx hb dX4_clear_4 (by decide) (by omega) (by omega) (fun c4 => ?_) (fun c4 => ?_)
      · exact absurd c4 (by omega)
      · refine lv_aload_n hx hb dX4_clear_7 rfl (lv_at hl 1 rfl) ?_
        refine va_get (D := D) (ci := 4) (v := .ref (ad 13)) (C := RX4) (T := TX4) (N := 8) hx hb hts ni4 hown hK hP 11 (cw_c11 cy ad aw σ (ju_tl (ju_hd (ju_wa (ju_cb (ju_co (ju_fc (ju_fi J (nf fi)) (nf (fcC fc i))) (nf co)) (nf cb)) (nf wa)) (nf (hdC hd i))) (nf (hdC tl i)))) rfl 2 (by decide) (hts _ flX4_15) (fun _ h => h) rfl dX4_clear_8 ?_
        refine lv_iload_n hx hb dX4_clear_11 rfl (lv_at hl 0 rfl) ?_
        refine lv_iconst (v := nI 0) hx hb dX4_clear_12 (by decide) ?_
        refine ln_iast hx hb hK hP hD hS 13 (cw_c13 cy ad aw σ (ju_tl (ju_hd (ju_wa (ju_cb (ju_co (ju_fc (ju_fi J (nf fi)) (nf (fcC fc i))) (nf co)) (nf cb)) (nf wa)) (nf (hdC hd i))) (nf (hdC tl i)))) (by omega) (by decide) ((cp_13 cy ad aw σ (ju_tl (ju_hd (ju_wa (ju_cb (ju_co (ju_fc (ju_fi J (nf fi)) (nf (fcC fc i))) (nf co)) (nf cb)) (nf wa)) (nf (hdC hd i))) (nf (hdC tl i))) i (nI (0))).trans (congrArg (fun z => cw cy ad aw σ z) (by rw [show upd (j_fc (ju_tl (ju_hd (ju_wa (ju_cb (ju_co (ju_fc (ju_fi J (nf fi)) (nf (fcC fc i))) (nf co)) (nf cb)) (nf wa)) (nf (hdC hd i))) (nf (hdC tl i)))) i (nI 0) = nf (updN (fcC fc i) i 0) from nf_upd _ _ _, jx_fc_tl, jx_fc_hd, jx_fc_wa, jx_fc_cb, jx_fc_co, jc_fc]))) dX4_clear_13 (fun H locs hP hD hS => ?_)
        refine lv_aload_n hx hb dX4_clear_14 rfl (lv_at hl 1 rfl) ?_
        refine va_get (D := D) (ci := 4) (v := .ref (ad 17)) (C := RX4) (T := TX4) (N := 8) hx hb hts ni4 hown hK hP 11 (cw_c11 cy ad aw σ (ju_tl (ju_hd (ju_wa (ju_cb (ju_co (ju_fc (ju_fi J (nf fi)) (nf (updN (fcC fc i) i 0))) (nf co)) (nf cb)) (nf wa)) (nf (hdC hd i))) (nf (hdC tl i)))) rfl 6 (by decide) (hts _ flX4_27) (fun _ h => h) rfl dX4_clear_15 ?_
        refine lv_iload_n hx hb dX4_clear_18 rfl (lv_at hl 0 rfl) ?_
        refine lv_iload_n hx hb dX4_clear_19 rfl (lv_at hl 0 rfl) ?_
        refine lv_sipush (v := nI 2048) hx hb dX4_clear_20 (by decide) ?_
        refine ln_imul hx hb dX4_clear_23 ?_
        refine ln_iast hx hb hK hP hD hS 17 (cw_c17 cy ad aw σ (ju_tl (ju_hd (ju_wa (ju_cb (ju_co (ju_fc (ju_fi J (nf fi)) (nf (updN (fcC fc i) i 0))) (nf co)) (nf cb)) (nf wa)) (nf (hdC hd i))) (nf (hdC tl i)))) (by omega) (by decide) ((cp_17 cy ad aw σ (ju_tl (ju_hd (ju_wa (ju_cb (ju_co (ju_fc (ju_fi J (nf fi)) (nf (updN (fcC fc i) i 0))) (nf co)) (nf cb)) (nf wa)) (nf (hdC hd i))) (nf (hdC tl i))) i (nI (i * 2048))).trans (congrArg (fun z => cw cy ad aw σ z) (by rw [show upd (j_hd (ju_tl (ju_hd (ju_wa (ju_cb (ju_co (ju_fc (ju_fi J (nf fi)) (nf (updN (fcC fc i) i 0))) (nf co)) (nf cb)) (nf wa)) (nf (hdC hd i))) (nf (hdC tl i)))) i (nI (i * 2048)) = nf (updN (hdC hd i) i (i * 2048)) from nf_upd _ _ _, jx_hd_tl, jc_hd]))) dX4_clear_24 (fun H locs hP hD hS => ?_)
        refine lv_aload_n hx hb dX4_clear_25 rfl (lv_at hl 1 rfl) ?_
        refine va_get (D := D) (ci := 4) (v := .ref (ad 18)) (C := RX4) (T := TX4) (N := 8) hx hb hts ni4 hown hK hP 11 (cw_c11 cy ad aw σ (ju_tl (ju_hd (ju_wa (ju_cb (ju_co (ju_fc (ju_fi J (nf fi)) (nf (updN (fcC fc i) i 0))) (nf co)) (nf cb)) (nf wa)) (nf (updN (hdC hd i) i (i * 2048)))) (nf (hdC tl i)))) rfl 7 (by decide) (hts _ flX4_30) (fun _ h => h) rfl dX4_clear_26 ?_
        refine lv_iload_n hx hb dX4_clear_29 rfl (lv_at hl 0 rfl) ?_
        refine lv_iload_n hx hb dX4_clear_30 rfl (lv_at hl 0 rfl) ?_
        refine lv_sipush (v := nI 2048) hx hb dX4_clear_31 (by decide) ?_
        refine ln_imul hx hb dX4_clear_34 ?_
        refine ln_iast hx hb hK hP hD hS 18 (cw_c18 cy ad aw σ (ju_tl (ju_hd (ju_wa (ju_cb (ju_co (ju_fc (ju_fi J (nf fi)) (nf (updN (fcC fc i) i 0))) (nf co)) (nf cb)) (nf wa)) (nf (updN (hdC hd i) i (i * 2048)))) (nf (hdC tl i)))) (by omega) (by decide) ((cp_18 cy ad aw σ (ju_tl (ju_hd (ju_wa (ju_cb (ju_co (ju_fc (ju_fi J (nf fi)) (nf (updN (fcC fc i) i 0))) (nf co)) (nf cb)) (nf wa)) (nf (updN (hdC hd i) i (i * 2048)))) (nf (hdC tl i))) i (nI (i * 2048))).trans (congrArg (fun z => cw cy ad aw σ z) (by rw [show upd (j_tl (ju_tl (ju_hd (ju_wa (ju_cb (ju_co (ju_fc (ju_fi J (nf fi)) (nf (updN (fcC fc i) i 0))) (nf co)) (nf cb)) (nf wa)) (nf (updN (hdC hd i) i (i * 2048)))) (nf (hdC tl i)))) i (nI (i * 2048)) = nf (updN (hdC tl i) i (i * 2048)) from nf_upd _ _ _, jc_tl]))) dX4_clear_35 (fun H locs hP hD hS => ?_)
        refine ln_iinc (lv' := [(1, .int (nI (i + 1))), (0, .ref (ad 11))]) hx hb dX4_clear_36 hl (k := 0) (n := 1) rfl (by decide) rfl (fun ls hl => ?_)
        refine lv_goto (tgt := 2) hx hb dX4_clear_39 (by decide) ?_
        have hl : lv_has ls 2 [(1, .int (nI (i + 1))), (0, .ref (ad 11))] := lv_sub hl [0, 1] rfl
        have hP : va_P D vwCl (cw cy ad aw σ (ju_tl (ju_hd (ju_wa (ju_cb (ju_co (ju_fc (ju_fi J (nf fi)) (nf (fcC fc (i + 1)))) (nf co)) (nf cb)) (nf wa)) (nf (hdC hd (i + 1)))) (nf (hdC tl (i + 1))))) H := by rw [← fcC_s, ← hdC_s, ← hdC_s]; exact hP
        have hD : va_D A (cw cy ad aw σ (ju_tl (ju_hd (ju_wa (ju_cb (ju_co (ju_fc (ju_fi J (nf fi)) (nf (fcC fc (i + 1)))) (nf co)) (nf cb)) (nf wa)) (nf (hdC hd (i + 1)))) (nf (hdC tl (i + 1))))) := va_D_map ((cw_ad _ _ _ _ _).trans (cw_ad _ _ _ _ _).symm) hD
        exact ih_lp (i + 1) ls _ _ (by omega) hP hD hS hl
  have hl : lv_has ls 2 [(1, .int (nI (0))), (0, .ref (ad 11))] := lv_sub hl [0, 1] rfl
  have hP : va_P D vwCl (cw cy ad aw σ (ju_tl (ju_hd (ju_wa (ju_cb (ju_co (ju_fc (ju_fi J (nf fi)) (nf (fcC fc 0))) (nf co)) (nf cb)) (nf wa)) (nf (hdC hd 0))) (nf (hdC tl 0)))) s.heap := hP
  have hD : va_D A (cw cy ad aw σ (ju_tl (ju_hd (ju_wa (ju_cb (ju_co (ju_fc (ju_fi J (nf fi)) (nf (fcC fc 0))) (nf co)) (nf cb)) (nf wa)) (nf (hdC hd 0))) (nf (hdC tl 0)))) := hD
  exact lp (3 - 0) 0 ls _ _ (by omega) hP hD hS hl
/-- the loads below x that are right for f wherever it is, in a row from 256 f on -/
def ftOk (σ : Sg) (fi : Nat → Nat) (f x : Nat) : Prop := ∀ y, y < x → isRS σ f y = true → fi (256 * f + cntN (isRS σ f) y) = y
theorem ftOk_t {σ : Sg} {fi : Nat → Nat} {f x : Nat} (h : ftOk σ fi f x) (c : isRS σ f x = true) : ftOk σ (updN fi (256 * f + cntN (isRS σ f) x) x) f (x + 1) := by
  intro y hy cy
  unfold updN
  by_cases e : y = x
  · rw [e, if_pos rfl]
  · have hlt : cntN (isRS σ f) y < cntN (isRS σ f) x := by
      have h1 : ∀ k, cntN (isRS σ f) (y + 1) ≤ cntN (isRS σ f) (y + 1 + k) := fun k => by
        induction k with
        | zero => exact Nat.le_refl _
        | succ k ih =>
          have : cntN (isRS σ f) (y + 1 + (k + 1)) = cntN (isRS σ f) (y + 1 + k) + (isRS σ f (y + 1 + k)).toNat := rfl
          omega
      have h2 := h1 (x - (y + 1))
      rw [show y + 1 + (x - (y + 1)) = x by omega, ← cntN_t cy] at h2
      omega
    rw [if_neg (by omega)]
    exact h y (by omega) cy
theorem ftOk_f {σ : Sg} {fi : Nat → Nat} {f x : Nat} (h : ftOk σ fi f x) (c : isRS σ f x = false) : ftOk σ fi f (x + 1) := by
  intro y hy cy
  rcases (show y = x ∨ y < x by omega) with rfl | q
  · rw [c] at cy; cases cy
  · exact h y q cy
theorem isRS_0 (σ : Sg) (f : Nat) : isRS σ f 0 = false := by
  have : hasP σ 0 = false := by
    cases h : hasP σ 0 with
    | false => rfl
    | true =>
      obtain ⟨t, -, ht⟩ := any_ex.mp h
      rw [Nat.zero_testBit] at ht
      cases ht
  rw [isRS, this, Bool.and_false]; rfl
theorem cnt_lt_of {p : Nat → Bool} {x : Nat} (h0 : p 0 = false) (hx : 1 ≤ x) : cntN p x < x := by
  induction x with
  | zero => omega
  | succ x ih =>
    have e : cntN p (x + 1) = cntN p x + (p x).toNat := rfl
    rcases Nat.eq_zero_or_pos x with rfl | q
    · rw [e, h0]; show 0 + 0 < 0 + 1; decide
    · have := ih q
      have h2 : (p x).toNat ≤ 1 := by cases p x <;> decide
      omega
theorem wfJ_se {σ : Sg} {J : Js} (hj : wfJ σ J) (a1 a2 a3 a4 a5 a6 a7 : Nat → Int32) : wfJ σ (ju_tl (ju_hd (ju_wa (ju_cb (ju_co (ju_fc (ju_fi J a1) a2) a3) a4) a5) a6) a7) := by
  obtain ⟨h1, h2, h3, h4⟩ := hj
  unfold wfJ
  dsimp only [ju_tl, ju_hd, ju_wa, ju_cb, ju_co, ju_fc, ju_fi, j_pe, j_wh, j_us, j_pb]
  exact ⟨h1, h2, h3, h4⟩
theorem updN2 (g : Nat → Nat) (i a b : Nat) : updN g i b = updN (updN g i a) i b := by
  funext j; unfold updN; by_cases e : j = i
  · rw [if_pos e, if_pos e]
  · rw [if_neg e, if_neg e, if_neg e]
theorem updN_at (g : Nat → Nat) (i v : Nat) : updN g i v i = v := by unfold updN; rw [if_pos rfl]
theorem updN_ne (g : Nat → Nat) {i j : Nat} (v : Nat) (h : j ≠ i) : updN g i v j = g j := by unfold updN; rw [if_neg h]
set_option maxHeartbeats 4000000 in
set_option maxRecDepth 100000 in
theorem k_X4_listFits (l : Launch) (D : va_G) (cy : Nat → ClassId) (ad aw : Nat → Nat) (σ : Sg) (J : Js) (fi fc co cb wa hd tl : Nat → Nat) (f : Nat) (hw : wfS σ) (hj : wfJ σ J) (hf : f < 3) (hfc : fc f = 0) : MV l yX4_listFits qX4_listFits 4 [.ref (ad 11), .int (nI (f))] D cy (cw cy ad aw σ (ju_tl (ju_hd (ju_wa (ju_cb (ju_co (ju_fc (ju_fi J (nf fi)) (nf fc)) (nf co)) (nf cb)) (nf wa)) (nf hd)) (nf tl))) (fun g : Nat → Nat => ftOk σ g f (2 ^ s_n σ) ∧ ∀ k, (k < 256 * f ∨ 256 * f + 256 ≤ k) → g k = fi k) (fun g : Nat → Nat => cw cy ad aw σ (ju_tl (ju_hd (ju_wa (ju_cb (ju_co (ju_fc (ju_fi J (nf g)) (nf (updN fc f (cntN (isRS σ f) (2 ^ s_n σ))))) (nf co)) (nf cb)) (nf wa)) (nf hd)) (nf tl))) := by
  intro sz
  refine Met.ofW (cc := cX4_listFits) (maxL := 3) (ret := none) (by decide) rfl ?_
  intro p e s m args below meth c s₁ B hml hv
  obtain ⟨rfl, rfl, hP, hK, hN, hD0⟩ := hv
  have hx := B.exec
  have hb := B.bytes
  have hr := B.returns
  have hlocks := B.notSynchronized
  have hts : ∀ cq ∈ tg, cq.before ([.ref (ad 11), .int (nI (f))] : List Value).toArray s = true := fun cq h => atoms_spec (ws := qX4_listFits) B.pre cq (List.mem_cons_of_mem _ h)
  have hown : s.vm.findClass RX4 = some m.cls := findClass_of_methodNamed B.named
  have hD := hD0.self (sz := s.heap.size)
  generalize hAe : va_A (cw cy ad aw σ (ju_tl (ju_hd (ju_wa (ju_cb (ju_co (ju_fc (ju_fi J (nf fi)) (nf fc)) (nf co)) (nf cb)) (nf wa)) (nf hd)) (nf tl))) s.heap.size = A at hD ⊢
  have hA : ∀ q : Nat, s.heap.size ≤ q → A q := fun q h => by rw [← hAe]; exact Or.inr h
  have hS : va_S A s.heap s.heap [] := va_S.rf
  have hl := lv_entry ([.ref (ad 11), .int (nI (f))]) (n := 3) (Nat.le_of_ble_eq_true rfl)
  rw [lg_entry_eq]
  generalize (lg_sl ([.ref (ad 11), .int (nI (f))]) ++ List.replicate (3 - (lg_sl ([.ref (ad 11), .int (nI (f))])).length) Slot.unset).toArray = ls at hl ⊢
  have hl : lv_has ls 3 [(0, .ref (ad 11)), (1, .int (nI (f)))] := hl
  have hw1 := hw.1
  have hw2 := hw.2.1
  have hp8 := pw_8 hw1
  have hpp := pw_pos (s_n σ)
  have hov := ov_lt hw
  have hmo := mo_lt hw
  have hof := of_lt hw
  have hjn := wfJ_se hj (nf fi) (nf fc) (nf co) (nf cb) (nf wa) (nf hd) (nf tl)
  refine lv_iconst (v := nI 1) hx hb dX4_listFits_0 (by decide) ?_
  refine lv_istore_n (lv' := [(2, .int (nI (1))), (0, .ref (ad 11)), (1, .int (nI (f)))]) hx hb dX4_listFits_1 rfl hl (by decide) rfl (fun ls hl => ?_)
  have lp : ∀ (k_lp x : Nat) (ls : Array Slot) (H : Heap) (locs : List Loc) (g : Nat → Nat), x + k_lp = 2 ^ s_n σ → 1 ≤ x → ftOk σ g f x → (∀ k, (k < 256 * f ∨ 256 * f + 256 ≤ k) → g k = fi k) → va_P D vwCl (cw cy ad aw σ (ju_tl (ju_hd (ju_wa (ju_cb (ju_co (ju_fc (ju_fi J (nf g)) (nf (updN fc f (cntN (isRS σ f) x)))) (nf co)) (nf cb)) (nf wa)) (nf hd)) (nf tl))) H → va_D A (cw cy ad aw σ (ju_tl (ju_hd (ju_wa (ju_cb (ju_co (ju_fc (ju_fi J (nf g)) (nf (updN fc f (cntN (isRS σ f) x)))) (nf co)) (nf cb)) (nf wa)) (nf hd)) (nf tl))) → va_S A s.heap H locs → lv_has ls 3 [(2, .int (nI (x))), (0, .ref (ad 11)), (1, .int (nI (f)))] → W p l e (headSpec qX4_listFits (rq 4)).room s m ([.ref (ad 11), .int (nI (f))] : List Value).toArray below meth c H locs 0 0 (MQ below (va_Qv (fun g : Nat → Nat => ftOk σ g f (2 ^ s_n σ) ∧ ∀ k, (k < 256 * f ∨ 256 * f + 256 ≤ k) → g k = fi k) (fun u t => va_P D vwCl ((fun g : Nat → Nat => cw cy ad aw σ (ju_tl (ju_hd (ju_wa (ju_cb (ju_co (ju_fc (ju_fi J (nf g)) (nf (updN fc f (cntN (isRS σ f) (2 ^ s_n σ))))) (nf co)) (nf cb)) (nf wa)) (nf hd)) (nf tl))) u) t.heap) A) ([.ref (ad 11), .int (nI (f))] : List Value).toArray s 0 0 A) (F0 m 2 ls []) := by
    intro k_lp
    induction k_lp with
    | zero =>
      intro x ls H locs g hi_lp hx1 hok hout hP hD hS hl
      have hcl := cnt_lt_of (isRS_0 σ f) hx1
      have hjn := wfJ_se hj (nf g) (nf (updN fc f (cntN (isRS σ f) x))) (nf co) (nf cb) (nf wa) (nf hd) (nf tl)
      refine lv_iload_n hx hb dX4_listFits_2 rfl (lv_at hl 0 rfl) ?_
      refine lv_iconst (v := nI 1) hx hb dX4_listFits_3 (by decide) ?_
      refine lv_aload_n hx hb dX4_listFits_4 rfl (lv_at hl 1 rfl) ?_
      refine va_get (D := D) (ci := 4) (v := .ref (ad 3)) (C := RX4) (T := TX4) (N := 8) hx hb hts ni4 hown hK hP 11 (cw_c11 cy ad aw σ (ju_tl (ju_hd (ju_wa (ju_cb (ju_co (ju_fc (ju_fi J (nf g)) (nf (updN fc f (cntN (isRS σ f) x)))) (nf co)) (nf cb)) (nf wa)) (nf hd)) (nf tl))) rfl 0 (by decide) (hts _ flX4_33) (fun _ h => h) rfl dX4_listFits_5 ?_
      refine va_get (D := D) (ci := 3) (v := .int (nI (s_n σ))) (C := RX3) (T := TX3) (N := 9) hx hb hts ni3 hown hK hP 3 (cw_c3 cy ad aw σ (ju_tl (ju_hd (ju_wa (ju_cb (ju_co (ju_fc (ju_fi J (nf g)) (nf (updN fc f (cntN (isRS σ f) x)))) (nf co)) (nf cb)) (nf wa)) (nf hd)) (nf tl))) rfl 3 (by decide) (hts _ flX4_94) (fun _ h => h) rfl dX4_listFits_8 ?_
      refine ln_ishl hx hb dX4_listFits_11 (by omega) (by omega) ?_
      refine ln_icmp_ge (tgt := 61) hx hb dX4_listFits_12 (by decide) (by omega) (by omega) (fun c12 => ?_) (fun c12 => ?_)
      · exact rw_v hx hb hr hlocks hS g (⟨by rw [← show x = 2 ^ s_n σ by omega]; exact hok, hout⟩) (by rw [show x = 2 ^ s_n σ by omega] at hP; exact hP) dX4_listFits_61
      · exact absurd c12 (by omega)
    | succ k_lp ih_lp =>
      intro x ls H locs g hi_lp hx1 hok hout hP hD hS hl
      have hcl := cnt_lt_of (isRS_0 σ f) hx1
      have hjn := wfJ_se hj (nf g) (nf (updN fc f (cntN (isRS σ f) x))) (nf co) (nf cb) (nf wa) (nf hd) (nf tl)
      refine lv_iload_n hx hb dX4_listFits_2 rfl (lv_at hl 0 rfl) ?_
      refine lv_iconst (v := nI 1) hx hb dX4_listFits_3 (by decide) ?_
      refine lv_aload_n hx hb dX4_listFits_4 rfl (lv_at hl 1 rfl) ?_
      refine va_get (D := D) (ci := 4) (v := .ref (ad 3)) (C := RX4) (T := TX4) (N := 8) hx hb hts ni4 hown hK hP 11 (cw_c11 cy ad aw σ (ju_tl (ju_hd (ju_wa (ju_cb (ju_co (ju_fc (ju_fi J (nf g)) (nf (updN fc f (cntN (isRS σ f) x)))) (nf co)) (nf cb)) (nf wa)) (nf hd)) (nf tl))) rfl 0 (by decide) (hts _ flX4_33) (fun _ h => h) rfl dX4_listFits_5 ?_
      refine va_get (D := D) (ci := 3) (v := .int (nI (s_n σ))) (C := RX3) (T := TX3) (N := 9) hx hb hts ni3 hown hK hP 3 (cw_c3 cy ad aw σ (ju_tl (ju_hd (ju_wa (ju_cb (ju_co (ju_fc (ju_fi J (nf g)) (nf (updN fc f (cntN (isRS σ f) x)))) (nf co)) (nf cb)) (nf wa)) (nf hd)) (nf tl))) rfl 3 (by decide) (hts _ flX4_94) (fun _ h => h) rfl dX4_listFits_8 ?_
      refine ln_ishl hx hb dX4_listFits_11 (by omega) (by omega) ?_
      refine ln_icmp_ge (tgt := 61) hx hb dX4_listFits_12 (by decide) (by omega) (by omega) (fun c12 => ?_) (fun c12 => ?_)
      · exact absurd c12 (by omega)
      · refine lv_aload_n hx hb dX4_listFits_15 rfl (lv_at hl 1 rfl) ?_
        refine va_get (D := D) (ci := 4) (v := .ref (ad 3)) (C := RX4) (T := TX4) (N := 8) hx hb hts ni4 hown hK hP 11 (cw_c11 cy ad aw σ (ju_tl (ju_hd (ju_wa (ju_cb (ju_co (ju_fc (ju_fi J (nf g)) (nf (updN fc f (cntN (isRS σ f) x)))) (nf co)) (nf cb)) (nf wa)) (nf hd)) (nf tl))) rfl 0 (by decide) (hts _ flX4_33) (fun _ h => h) rfl dX4_listFits_16 ?_
        refine lv_iload_n hx hb dX4_listFits_19 rfl (lv_at hl 2 rfl) ?_
        refine lv_iload_n hx hb dX4_listFits_20 rfl (lv_at hl 0 rfl) ?_
        refine cr_v (n := 2) (As := [.int (nI (f)), .int (nI (x))]) (rest := []) ⟨hx, hb, hml, hown, hts⟩ (k_X3_isRightSomewhere l D cy ad aw σ (ju_tl (ju_hd (ju_wa (ju_cb (ju_co (ju_fc (ju_fi J (nf g)) (nf (updN fc f (cntN (isRS σ f) x)))) (nf co)) (nf cb)) (nf wa)) (nf hd)) (nf tl)) f x hw hjn (by omega) (by omega)) gvX4_97 (by decide +kernel) ⟨Nat.le_of_ble_eq_true rfl, Nat.le_of_ble_eq_true rfl⟩ hK hN hP 3 (cw_c3 cy ad aw σ (ju_tl (ju_hd (ju_wa (ju_cb (ju_co (ju_fc (ju_fi J (nf g)) (nf (updN fc f (cntN (isRS σ f) x)))) (nf co)) (nf cb)) (nf wa)) (nf hd)) (nf tl))) rfl rfl hl.1 rfl (Nat.le_of_ble_eq_true rfl) dX4_listFits_21 ⟨Nat.zero_le _, Nat.zero_le _⟩ ?_
        refine lb_if_eq (tgt := 55) hx hb dX4_listFits_24 (by decide) (fun c24 => ?_) (fun c24 => ?_)
        · refine ln_iinc (lv' := [(2, .int (nI (x + 1))), (0, .ref (ad 11)), (1, .int (nI (f)))]) hx hb dX4_listFits_55 hl (k := 0) (n := 1) rfl (by decide) rfl (fun ls hl => ?_)
          refine lv_goto (tgt := 2) hx hb dX4_listFits_58 (by decide) ?_
          have hl : lv_has ls 3 [(2, .int (nI (x + 1))), (0, .ref (ad 11)), (1, .int (nI (f)))] := lv_sub hl [0, 1, 2] rfl
          have hfx : updN fc f (cntN (isRS σ f) (x + 1)) = (updN fc f (cntN (isRS σ f) x)) := by first | (rw [← cntN_t c24, updN2]; done) | (rw [← cntN_f c24])
          have hP : va_P D vwCl (cw cy ad aw σ (ju_tl (ju_hd (ju_wa (ju_cb (ju_co (ju_fc (ju_fi J (nf g)) (nf (updN fc f (cntN (isRS σ f) (x + 1))))) (nf co)) (nf cb)) (nf wa)) (nf hd)) (nf tl))) H := by rw [hfx]; exact hP
          have hD : va_D A (cw cy ad aw σ (ju_tl (ju_hd (ju_wa (ju_cb (ju_co (ju_fc (ju_fi J (nf g)) (nf (updN fc f (cntN (isRS σ f) (x + 1))))) (nf co)) (nf cb)) (nf wa)) (nf hd)) (nf tl))) := va_D_map ((cw_ad _ _ _ _ _).trans (cw_ad _ _ _ _ _).symm) hD
          exact ih_lp (x + 1) ls _ _ _ (by omega) (by omega) (by first | exact ftOk_t hok c24 | exact ftOk_f hok c24) (by first | exact hout | (intro k hk; rw [updN_ne _ _ (by omega)]; exact hout k hk)) hP hD hS hl
        · refine lv_aload_n hx hb dX4_listFits_27 rfl (lv_at hl 1 rfl) ?_
          refine va_get (D := D) (ci := 4) (v := .ref (ad 12)) (C := RX4) (T := TX4) (N := 8) hx hb hts ni4 hown hK hP 11 (cw_c11 cy ad aw σ (ju_tl (ju_hd (ju_wa (ju_cb (ju_co (ju_fc (ju_fi J (nf g)) (nf (updN fc f (cntN (isRS σ f) x)))) (nf co)) (nf cb)) (nf wa)) (nf hd)) (nf tl))) rfl 1 (by decide) (hts _ flX4_9) (fun _ h => h) rfl dX4_listFits_28 ?_
          refine lv_iload_n hx hb dX4_listFits_31 rfl (lv_at hl 2 rfl) ?_
          refine lv_sipush (v := nI 256) hx hb dX4_listFits_32 (by decide) ?_
          refine ln_imul hx hb dX4_listFits_35 ?_
          refine lv_aload_n hx hb dX4_listFits_36 rfl (lv_at hl 1 rfl) ?_
          refine va_get (D := D) (ci := 4) (v := .ref (ad 13)) (C := RX4) (T := TX4) (N := 8) hx hb hts ni4 hown hK hP 11 (cw_c11 cy ad aw σ (ju_tl (ju_hd (ju_wa (ju_cb (ju_co (ju_fc (ju_fi J (nf g)) (nf (updN fc f (cntN (isRS σ f) x)))) (nf co)) (nf cb)) (nf wa)) (nf hd)) (nf tl))) rfl 2 (by decide) (hts _ flX4_15) (fun _ h => h) rfl dX4_listFits_37 ?_
          refine lv_iload_n hx hb dX4_listFits_40 rfl (lv_at hl 2 rfl) ?_
          refine ln_iald (v := (nI ((updN fc f (cntN (isRS σ f) x)) f))) hx hb hK hP 13 (cw_c13 cy ad aw σ (ju_tl (ju_hd (ju_wa (ju_cb (ju_co (ju_fc (ju_fi J (nf g)) (nf (updN fc f (cntN (isRS σ f) x)))) (nf co)) (nf cb)) (nf wa)) (nf hd)) (nf tl))) (by omega) (by decide) rfl dX4_listFits_41 ?_
          refine ln_nat (show (updN fc f (cntN (isRS σ f) x)) f = cntN (isRS σ f) x from updN_at _ _ _) ?_
          refine ln_iadd hx hb dX4_listFits_42 ?_
          refine ln_nat (show (f * 256) + (cntN (isRS σ f) x) = 256 * f + cntN (isRS σ f) x from by omega) ?_
          refine lv_iload_n hx hb dX4_listFits_43 rfl (lv_at hl 0 rfl) ?_
          refine ln_iast hx hb hK hP hD hS 12 (cw_c12 cy ad aw σ (ju_tl (ju_hd (ju_wa (ju_cb (ju_co (ju_fc (ju_fi J (nf g)) (nf (updN fc f (cntN (isRS σ f) x)))) (nf co)) (nf cb)) (nf wa)) (nf hd)) (nf tl))) (by omega) (by decide) ((cp_12 cy ad aw σ (ju_tl (ju_hd (ju_wa (ju_cb (ju_co (ju_fc (ju_fi J (nf g)) (nf (updN fc f (cntN (isRS σ f) x)))) (nf co)) (nf cb)) (nf wa)) (nf hd)) (nf tl)) (256 * f + cntN (isRS σ f) x) (nI (x))).trans (congrArg (fun z => cw cy ad aw σ z) (by rw [show upd (j_fi (ju_tl (ju_hd (ju_wa (ju_cb (ju_co (ju_fc (ju_fi J (nf g)) (nf (updN fc f (cntN (isRS σ f) x)))) (nf co)) (nf cb)) (nf wa)) (nf hd)) (nf tl))) (256 * f + cntN (isRS σ f) x) (nI x) = nf (updN g (256 * f + cntN (isRS σ f) x) x) from nf_upd _ _ _, jx_fi_tl, jx_fi_hd, jx_fi_wa, jx_fi_cb, jx_fi_co, jx_fi_fc, jc_fi]))) dX4_listFits_44 (fun H locs hP hD hS => ?_)
          refine lv_aload_n hx hb dX4_listFits_45 rfl (lv_at hl 1 rfl) ?_
          refine va_get (D := D) (ci := 4) (v := .ref (ad 13)) (C := RX4) (T := TX4) (N := 8) hx hb hts ni4 hown hK hP 11 (cw_c11 cy ad aw σ (ju_tl (ju_hd (ju_wa (ju_cb (ju_co (ju_fc (ju_fi J (nf (updN g (256 * f + cntN (isRS σ f) x) x))) (nf (updN fc f (cntN (isRS σ f) x)))) (nf co)) (nf cb)) (nf wa)) (nf hd)) (nf tl))) rfl 2 (by decide) (hts _ flX4_15) (fun _ h => h) rfl dX4_listFits_46 ?_
          refine lv_iload_n hx hb dX4_listFits_49 rfl (lv_at hl 2 rfl) ?_
          refine lv_dup2_11 hx hb dX4_listFits_50 rfl rfl ?_
          refine ln_iald (v := (nI ((updN fc f (cntN (isRS σ f) x)) f))) hx hb hK hP 13 (cw_c13 cy ad aw σ (ju_tl (ju_hd (ju_wa (ju_cb (ju_co (ju_fc (ju_fi J (nf (updN g (256 * f + cntN (isRS σ f) x) x))) (nf (updN fc f (cntN (isRS σ f) x)))) (nf co)) (nf cb)) (nf wa)) (nf hd)) (nf tl))) (by omega) (by decide) rfl dX4_listFits_51 ?_
          refine ln_nat (show (updN fc f (cntN (isRS σ f) x)) f = cntN (isRS σ f) x from updN_at _ _ _) ?_
          refine lv_iconst (v := nI 1) hx hb dX4_listFits_52 (by decide) ?_
          refine ln_iadd hx hb dX4_listFits_53 ?_
          refine ln_iast hx hb hK hP hD hS 13 (cw_c13 cy ad aw σ (ju_tl (ju_hd (ju_wa (ju_cb (ju_co (ju_fc (ju_fi J (nf (updN g (256 * f + cntN (isRS σ f) x) x))) (nf (updN fc f (cntN (isRS σ f) x)))) (nf co)) (nf cb)) (nf wa)) (nf hd)) (nf tl))) (by omega) (by decide) ((cp_13 cy ad aw σ (ju_tl (ju_hd (ju_wa (ju_cb (ju_co (ju_fc (ju_fi J (nf (updN g (256 * f + cntN (isRS σ f) x) x))) (nf (updN fc f (cntN (isRS σ f) x)))) (nf co)) (nf cb)) (nf wa)) (nf hd)) (nf tl)) f (nI ((cntN (isRS σ f) x) + 1))).trans (congrArg (fun z => cw cy ad aw σ z) (by rw [show upd (j_fc (ju_tl (ju_hd (ju_wa (ju_cb (ju_co (ju_fc (ju_fi J (nf (updN g (256 * f + cntN (isRS σ f) x) x))) (nf (updN fc f (cntN (isRS σ f) x)))) (nf co)) (nf cb)) (nf wa)) (nf hd)) (nf tl))) f (nI ((cntN (isRS σ f) x) + 1)) = nf (updN (updN fc f (cntN (isRS σ f) x)) f ((cntN (isRS σ f) x) + 1)) from nf_upd _ _ _, jx_fc_tl, jx_fc_hd, jx_fc_wa, jx_fc_cb, jx_fc_co, jc_fc]))) dX4_listFits_54 (fun H locs hP hD hS => ?_)
          refine ln_iinc (lv' := [(2, .int (nI (x + 1))), (0, .ref (ad 11)), (1, .int (nI (f)))]) hx hb dX4_listFits_55 hl (k := 0) (n := 1) rfl (by decide) rfl (fun ls hl => ?_)
          refine lv_goto (tgt := 2) hx hb dX4_listFits_58 (by decide) ?_
          have hl : lv_has ls 3 [(2, .int (nI (x + 1))), (0, .ref (ad 11)), (1, .int (nI (f)))] := lv_sub hl [0, 1, 2] rfl
          have hfx : updN fc f (cntN (isRS σ f) (x + 1)) = (updN (updN fc f (cntN (isRS σ f) x)) f ((cntN (isRS σ f) x) + 1)) := by first | (rw [← cntN_t c24, updN2]; done) | (rw [← cntN_f c24])
          have hP : va_P D vwCl (cw cy ad aw σ (ju_tl (ju_hd (ju_wa (ju_cb (ju_co (ju_fc (ju_fi J (nf (updN g (256 * f + cntN (isRS σ f) x) x))) (nf (updN fc f (cntN (isRS σ f) (x + 1))))) (nf co)) (nf cb)) (nf wa)) (nf hd)) (nf tl))) H := by rw [hfx]; exact hP
          have hD : va_D A (cw cy ad aw σ (ju_tl (ju_hd (ju_wa (ju_cb (ju_co (ju_fc (ju_fi J (nf (updN g (256 * f + cntN (isRS σ f) x) x))) (nf (updN fc f (cntN (isRS σ f) (x + 1))))) (nf co)) (nf cb)) (nf wa)) (nf hd)) (nf tl))) := va_D_map ((cw_ad _ _ _ _ _).trans (cw_ad _ _ _ _ _).symm) hD
          exact ih_lp (x + 1) ls _ _ _ (by omega) (by omega) (by first | exact ftOk_t hok c24 | exact ftOk_f hok c24) (by first | exact hout | (intro k hk; rw [updN_ne _ _ (by omega)]; exact hout k hk)) hP hD hS hl
  have hl : lv_has ls 3 [(2, .int (nI (1))), (0, .ref (ad 11)), (1, .int (nI (f)))] := lv_sub hl [0, 1, 2] rfl
  have hfx : updN fc f (cntN (isRS σ f) 1) = fc := by rw [← cntN_f (isRS_0 σ f)]; funext j; unfold updN; by_cases e : j = f; rw [if_pos e, e, hfc]; rfl; rw [if_neg e]
  have hP : va_P D vwCl (cw cy ad aw σ (ju_tl (ju_hd (ju_wa (ju_cb (ju_co (ju_fc (ju_fi J (nf fi)) (nf (updN fc f (cntN (isRS σ f) 1)))) (nf co)) (nf cb)) (nf wa)) (nf hd)) (nf tl))) s.heap := by rw [hfx]; exact hP
  have hD : va_D A (cw cy ad aw σ (ju_tl (ju_hd (ju_wa (ju_cb (ju_co (ju_fc (ju_fi J (nf fi)) (nf (updN fc f (cntN (isRS σ f) 1)))) (nf co)) (nf cb)) (nf wa)) (nf hd)) (nf tl))) := by rw [hfx]; exact hD
  exact lp (2 ^ s_n σ - 1) 1 ls _ _ fi (by omega) (by omega) (fun y hy cy => by rw [show y = 0 by omega, isRS_0] at cy; cases cy) (fun _ _ => rfl) hP hD hS hl
/-- the search's rows: what they cost, the last crossing, the queues, where each begins and ends -/
abbrev Ss : Type := (Nat → Nat) × (Nat → Nat) × (Nat → Nat) × (Nat → Nat) × (Nat → Nat)
def z_co (Z : Ss) : Nat → Nat := Z.1
def z_cb (Z : Ss) : Nat → Nat := Z.2.1
def z_wa (Z : Ss) : Nat → Nat := Z.2.2.1
def z_hd (Z : Ss) : Nat → Nat := Z.2.2.2.1
def z_tl (Z : Ss) : Nat → Nat := Z.2.2.2.2
def rcP (b cr pr q : Nat) (Z : Ss) : Ss := (updN (z_co Z) b pr, updN (z_cb Z) b cr, updN (z_wa Z) (z_tl Z q) b, z_hd Z, updN (z_tl Z) q (z_tl Z q + 1))
def rcF (b cr pr q : Nat) (Z : Ss) : Ss := if pr < z_co Z b ∧ z_tl Z q < (q + 1) * 2048 then rcP b cr pr q Z else Z
set_option maxHeartbeats 4000000 in
set_option maxRecDepth 100000 in
theorem k_X4_reach (l : Launch) (D : va_G) (cy : Nat → ClassId) (ad aw : Nat → Nat) (σ : Sg) (J : Js) (fi fc : Nat → Nat) (Z : Ss) (b cr pr q : Nat) (hb2 : b < 2048) (hq : q < 3) (hpr : pr < 2 ^ 31) (hco : z_co Z b < 2 ^ 31) (htl : z_tl Z q ≤ 6144) : MV l yX4_reach qX4_reach 0 [.ref (ad 11), .int (nI (b)), .int (nI (cr)), .int (nI (pr)), .int (nI (q))] D cy (cw cy ad aw σ (ju_tl (ju_hd (ju_wa (ju_cb (ju_co (ju_fc (ju_fi J (nf fi)) (nf fc)) (nf (z_co Z))) (nf (z_cb Z))) (nf (z_wa Z))) (nf (z_hd Z))) (nf (z_tl Z)))) (fun _ : Unit => True) (fun _ : Unit => (cw cy ad aw σ (ju_tl (ju_hd (ju_wa (ju_cb (ju_co (ju_fc (ju_fi J (nf fi)) (nf fc)) (nf (z_co (rcF b cr pr q Z)))) (nf (z_cb (rcF b cr pr q Z)))) (nf (z_wa (rcF b cr pr q Z)))) (nf (z_hd (rcF b cr pr q Z)))) (nf (z_tl (rcF b cr pr q Z)))))) := by
  intro sz
  refine Met.ofW (cc := cX4_reach) (maxL := 5) (ret := none) (by decide) rfl ?_
  intro p e s m args below meth c s₁ B hml hv
  obtain ⟨rfl, rfl, hP, hK, hN, hD0⟩ := hv
  have hx := B.exec
  have hb := B.bytes
  have hr := B.returns
  have hlocks := B.notSynchronized
  have hts : ∀ cq ∈ tg, cq.before ([.ref (ad 11), .int (nI (b)), .int (nI (cr)), .int (nI (pr)), .int (nI (q))] : List Value).toArray s = true := fun cq h => atoms_spec (ws := qX4_reach) B.pre cq (List.mem_cons_of_mem _ h)
  have hown : s.vm.findClass RX4 = some m.cls := findClass_of_methodNamed B.named
  have hD := hD0.self (sz := s.heap.size)
  generalize hAe : va_A (cw cy ad aw σ (ju_tl (ju_hd (ju_wa (ju_cb (ju_co (ju_fc (ju_fi J (nf fi)) (nf fc)) (nf (z_co Z))) (nf (z_cb Z))) (nf (z_wa Z))) (nf (z_hd Z))) (nf (z_tl Z)))) s.heap.size = A at hD ⊢
  have hA : ∀ q : Nat, s.heap.size ≤ q → A q := fun q h => by rw [← hAe]; exact Or.inr h
  have hS : va_S A s.heap s.heap [] := va_S.rf
  have hl := lv_entry ([.ref (ad 11), .int (nI (b)), .int (nI (cr)), .int (nI (pr)), .int (nI (q))]) (n := 5) (Nat.le_of_ble_eq_true rfl)
  rw [lg_entry_eq]
  generalize (lg_sl ([.ref (ad 11), .int (nI (b)), .int (nI (cr)), .int (nI (pr)), .int (nI (q))]) ++ List.replicate (5 - (lg_sl ([.ref (ad 11), .int (nI (b)), .int (nI (cr)), .int (nI (pr)), .int (nI (q))])).length) Slot.unset).toArray = ls at hl ⊢
  have hl : lv_has ls 5 [(0, .ref (ad 11)), (1, .int (nI (b))), (2, .int (nI (cr))), (3, .int (nI (pr))), (4, .int (nI (q)))] := hl
  refine lv_iload_n hx hb dX4_reach_0 rfl (lv_at hl 3 rfl) ?_
  refine lv_aload_n hx hb dX4_reach_1 rfl (lv_at hl 0 rfl) ?_
  refine va_get (D := D) (ci := 4) (v := .ref (ad 14)) (C := RX4) (T := TX4) (N := 8) hx hb hts ni4 hown hK hP 11 (cw_c11 cy ad aw σ (ju_tl (ju_hd (ju_wa (ju_cb (ju_co (ju_fc (ju_fi J (nf fi)) (nf fc)) (nf (z_co Z))) (nf (z_cb Z))) (nf (z_wa Z))) (nf (z_hd Z))) (nf (z_tl Z)))) rfl 3 (by decide) (hts _ flX4_18) (fun _ h => h) rfl dX4_reach_2 ?_
  refine lv_iload_n hx hb dX4_reach_5 rfl (lv_at hl 1 rfl) ?_
  refine ln_iald (v := (nI ((z_co Z) b))) hx hb hK hP 14 (cw_c14 cy ad aw σ (ju_tl (ju_hd (ju_wa (ju_cb (ju_co (ju_fc (ju_fi J (nf fi)) (nf fc)) (nf (z_co Z))) (nf (z_cb Z))) (nf (z_wa Z))) (nf (z_hd Z))) (nf (z_tl Z)))) (by omega) (by decide) rfl dX4_reach_6 ?_
  refine ln_icmp_ge (tgt := 66) hx hb dX4_reach_7 (by decide) (by omega) (by omega) (fun c7 => ?_) (fun c7 => ?_)
  · exact rw_v hx hb hr hlocks hS () (trivial) (by show va_P D vwCl (cw cy ad aw σ (ju_tl (ju_hd (ju_wa (ju_cb (ju_co (ju_fc (ju_fi J (nf fi)) (nf fc)) (nf (z_co (rcF b cr pr q Z)))) (nf (z_cb (rcF b cr pr q Z)))) (nf (z_wa (rcF b cr pr q Z)))) (nf (z_hd (rcF b cr pr q Z)))) (nf (z_tl (rcF b cr pr q Z))))) _; rw [rcF, if_neg (by omega)]; exact hP) dX4_reach_66
  · refine lv_aload_n hx hb dX4_reach_10 rfl (lv_at hl 0 rfl) ?_
    refine va_get (D := D) (ci := 4) (v := .ref (ad 18)) (C := RX4) (T := TX4) (N := 8) hx hb hts ni4 hown hK hP 11 (cw_c11 cy ad aw σ (ju_tl (ju_hd (ju_wa (ju_cb (ju_co (ju_fc (ju_fi J (nf fi)) (nf fc)) (nf (z_co Z))) (nf (z_cb Z))) (nf (z_wa Z))) (nf (z_hd Z))) (nf (z_tl Z)))) rfl 7 (by decide) (hts _ flX4_30) (fun _ h => h) rfl dX4_reach_11 ?_
    refine lv_iload hx hb dX4_reach_14 (lv_at hl 4 rfl) ?_
    refine ln_iald (v := (nI ((z_tl Z) q))) hx hb hK hP 18 (cw_c18 cy ad aw σ (ju_tl (ju_hd (ju_wa (ju_cb (ju_co (ju_fc (ju_fi J (nf fi)) (nf fc)) (nf (z_co Z))) (nf (z_cb Z))) (nf (z_wa Z))) (nf (z_hd Z))) (nf (z_tl Z)))) (by omega) (by decide) rfl dX4_reach_16 ?_
    refine lv_iload hx hb dX4_reach_17 (lv_at hl 4 rfl) ?_
    refine lv_iconst (v := nI 1) hx hb dX4_reach_19 (by decide) ?_
    refine ln_iadd hx hb dX4_reach_20 ?_
    refine lv_sipush (v := nI 2048) hx hb dX4_reach_21 (by decide) ?_
    refine ln_imul hx hb dX4_reach_24 ?_
    refine ln_icmp_ge (tgt := 66) hx hb dX4_reach_25 (by decide) (by omega) (by omega) (fun c25 => ?_) (fun c25 => ?_)
    · exact rw_v hx hb hr hlocks hS () (trivial) (by show va_P D vwCl (cw cy ad aw σ (ju_tl (ju_hd (ju_wa (ju_cb (ju_co (ju_fc (ju_fi J (nf fi)) (nf fc)) (nf (z_co (rcF b cr pr q Z)))) (nf (z_cb (rcF b cr pr q Z)))) (nf (z_wa (rcF b cr pr q Z)))) (nf (z_hd (rcF b cr pr q Z)))) (nf (z_tl (rcF b cr pr q Z))))) _; rw [rcF, if_neg (by omega)]; exact hP) dX4_reach_66
    · refine lv_aload_n hx hb dX4_reach_28 rfl (lv_at hl 0 rfl) ?_
      refine va_get (D := D) (ci := 4) (v := .ref (ad 14)) (C := RX4) (T := TX4) (N := 8) hx hb hts ni4 hown hK hP 11 (cw_c11 cy ad aw σ (ju_tl (ju_hd (ju_wa (ju_cb (ju_co (ju_fc (ju_fi J (nf fi)) (nf fc)) (nf (z_co Z))) (nf (z_cb Z))) (nf (z_wa Z))) (nf (z_hd Z))) (nf (z_tl Z)))) rfl 3 (by decide) (hts _ flX4_18) (fun _ h => h) rfl dX4_reach_29 ?_
      refine lv_iload_n hx hb dX4_reach_32 rfl (lv_at hl 1 rfl) ?_
      refine lv_iload_n hx hb dX4_reach_33 rfl (lv_at hl 3 rfl) ?_
      refine ln_iast hx hb hK hP hD hS 14 (cw_c14 cy ad aw σ (ju_tl (ju_hd (ju_wa (ju_cb (ju_co (ju_fc (ju_fi J (nf fi)) (nf fc)) (nf (z_co Z))) (nf (z_cb Z))) (nf (z_wa Z))) (nf (z_hd Z))) (nf (z_tl Z)))) (by omega) (by decide) ((cp_14 cy ad aw σ (ju_tl (ju_hd (ju_wa (ju_cb (ju_co (ju_fc (ju_fi J (nf fi)) (nf fc)) (nf (z_co Z))) (nf (z_cb Z))) (nf (z_wa Z))) (nf (z_hd Z))) (nf (z_tl Z))) b (nI (pr))).trans (congrArg (fun z => cw cy ad aw σ z) (by rw [show upd (j_co (ju_tl (ju_hd (ju_wa (ju_cb (ju_co (ju_fc (ju_fi J (nf fi)) (nf fc)) (nf (z_co Z))) (nf (z_cb Z))) (nf (z_wa Z))) (nf (z_hd Z))) (nf (z_tl Z)))) b (nI pr) = nf (updN (z_co Z) b pr) from nf_upd _ _ _, jx_co_tl, jx_co_hd, jx_co_wa, jx_co_cb, jc_co]))) dX4_reach_34 (fun H locs hP hD hS => ?_)
      refine lv_aload_n hx hb dX4_reach_35 rfl (lv_at hl 0 rfl) ?_
      refine va_get (D := D) (ci := 4) (v := .ref (ad 15)) (C := RX4) (T := TX4) (N := 8) hx hb hts ni4 hown hK hP 11 (cw_c11 cy ad aw σ (ju_tl (ju_hd (ju_wa (ju_cb (ju_co (ju_fc (ju_fi J (nf fi)) (nf fc)) (nf (updN (z_co Z) b pr))) (nf (z_cb Z))) (nf (z_wa Z))) (nf (z_hd Z))) (nf (z_tl Z)))) rfl 4 (by decide) (hts _ flX4_21) (fun _ h => h) rfl dX4_reach_36 ?_
      refine lv_iload_n hx hb dX4_reach_39 rfl (lv_at hl 1 rfl) ?_
      refine lv_iload_n hx hb dX4_reach_40 rfl (lv_at hl 2 rfl) ?_
      refine ln_iast hx hb hK hP hD hS 15 (cw_c15 cy ad aw σ (ju_tl (ju_hd (ju_wa (ju_cb (ju_co (ju_fc (ju_fi J (nf fi)) (nf fc)) (nf (updN (z_co Z) b pr))) (nf (z_cb Z))) (nf (z_wa Z))) (nf (z_hd Z))) (nf (z_tl Z)))) (by omega) (by decide) ((cp_15 cy ad aw σ (ju_tl (ju_hd (ju_wa (ju_cb (ju_co (ju_fc (ju_fi J (nf fi)) (nf fc)) (nf (updN (z_co Z) b pr))) (nf (z_cb Z))) (nf (z_wa Z))) (nf (z_hd Z))) (nf (z_tl Z))) b (nI (cr))).trans (congrArg (fun z => cw cy ad aw σ z) (by rw [show upd (j_cb (ju_tl (ju_hd (ju_wa (ju_cb (ju_co (ju_fc (ju_fi J (nf fi)) (nf fc)) (nf (updN (z_co Z) b pr))) (nf (z_cb Z))) (nf (z_wa Z))) (nf (z_hd Z))) (nf (z_tl Z)))) b (nI cr) = nf (updN (z_cb Z) b cr) from nf_upd _ _ _, jx_cb_tl, jx_cb_hd, jx_cb_wa, jc_cb]))) dX4_reach_41 (fun H locs hP hD hS => ?_)
      refine lv_aload_n hx hb dX4_reach_42 rfl (lv_at hl 0 rfl) ?_
      refine va_get (D := D) (ci := 4) (v := .ref (ad 16)) (C := RX4) (T := TX4) (N := 8) hx hb hts ni4 hown hK hP 11 (cw_c11 cy ad aw σ (ju_tl (ju_hd (ju_wa (ju_cb (ju_co (ju_fc (ju_fi J (nf fi)) (nf fc)) (nf (updN (z_co Z) b pr))) (nf (updN (z_cb Z) b cr))) (nf (z_wa Z))) (nf (z_hd Z))) (nf (z_tl Z)))) rfl 5 (by decide) (hts _ flX4_24) (fun _ h => h) rfl dX4_reach_43 ?_
      refine lv_aload_n hx hb dX4_reach_46 rfl (lv_at hl 0 rfl) ?_
      refine va_get (D := D) (ci := 4) (v := .ref (ad 18)) (C := RX4) (T := TX4) (N := 8) hx hb hts ni4 hown hK hP 11 (cw_c11 cy ad aw σ (ju_tl (ju_hd (ju_wa (ju_cb (ju_co (ju_fc (ju_fi J (nf fi)) (nf fc)) (nf (updN (z_co Z) b pr))) (nf (updN (z_cb Z) b cr))) (nf (z_wa Z))) (nf (z_hd Z))) (nf (z_tl Z)))) rfl 7 (by decide) (hts _ flX4_30) (fun _ h => h) rfl dX4_reach_47 ?_
      refine lv_iload hx hb dX4_reach_50 (lv_at hl 4 rfl) ?_
      refine ln_iald (v := (nI ((z_tl Z) q))) hx hb hK hP 18 (cw_c18 cy ad aw σ (ju_tl (ju_hd (ju_wa (ju_cb (ju_co (ju_fc (ju_fi J (nf fi)) (nf fc)) (nf (updN (z_co Z) b pr))) (nf (updN (z_cb Z) b cr))) (nf (z_wa Z))) (nf (z_hd Z))) (nf (z_tl Z)))) (by omega) (by decide) rfl dX4_reach_52 ?_
      refine lv_iload_n hx hb dX4_reach_53 rfl (lv_at hl 1 rfl) ?_
      refine ln_iast hx hb hK hP hD hS 16 (cw_c16 cy ad aw σ (ju_tl (ju_hd (ju_wa (ju_cb (ju_co (ju_fc (ju_fi J (nf fi)) (nf fc)) (nf (updN (z_co Z) b pr))) (nf (updN (z_cb Z) b cr))) (nf (z_wa Z))) (nf (z_hd Z))) (nf (z_tl Z)))) (by omega) (by decide) ((cp_16 cy ad aw σ (ju_tl (ju_hd (ju_wa (ju_cb (ju_co (ju_fc (ju_fi J (nf fi)) (nf fc)) (nf (updN (z_co Z) b pr))) (nf (updN (z_cb Z) b cr))) (nf (z_wa Z))) (nf (z_hd Z))) (nf (z_tl Z))) ((z_tl Z) q) (nI (b))).trans (congrArg (fun z => cw cy ad aw σ z) (by rw [show upd (j_wa (ju_tl (ju_hd (ju_wa (ju_cb (ju_co (ju_fc (ju_fi J (nf fi)) (nf fc)) (nf (updN (z_co Z) b pr))) (nf (updN (z_cb Z) b cr))) (nf (z_wa Z))) (nf (z_hd Z))) (nf (z_tl Z)))) ((z_tl Z) q) (nI b) = nf (updN (z_wa Z) ((z_tl Z) q) b) from nf_upd _ _ _, jx_wa_tl, jx_wa_hd, jc_wa]))) dX4_reach_54 (fun H locs hP hD hS => ?_)
      refine lv_aload_n hx hb dX4_reach_55 rfl (lv_at hl 0 rfl) ?_
      refine va_get (D := D) (ci := 4) (v := .ref (ad 18)) (C := RX4) (T := TX4) (N := 8) hx hb hts ni4 hown hK hP 11 (cw_c11 cy ad aw σ (ju_tl (ju_hd (ju_wa (ju_cb (ju_co (ju_fc (ju_fi J (nf fi)) (nf fc)) (nf (updN (z_co Z) b pr))) (nf (updN (z_cb Z) b cr))) (nf (updN (z_wa Z) ((z_tl Z) q) b))) (nf (z_hd Z))) (nf (z_tl Z)))) rfl 7 (by decide) (hts _ flX4_30) (fun _ h => h) rfl dX4_reach_56 ?_
      refine lv_iload hx hb dX4_reach_59 (lv_at hl 4 rfl) ?_
      refine lv_dup2_11 hx hb dX4_reach_61 rfl rfl ?_
      refine ln_iald (v := (nI ((z_tl Z) q))) hx hb hK hP 18 (cw_c18 cy ad aw σ (ju_tl (ju_hd (ju_wa (ju_cb (ju_co (ju_fc (ju_fi J (nf fi)) (nf fc)) (nf (updN (z_co Z) b pr))) (nf (updN (z_cb Z) b cr))) (nf (updN (z_wa Z) ((z_tl Z) q) b))) (nf (z_hd Z))) (nf (z_tl Z)))) (by omega) (by decide) rfl dX4_reach_62 ?_
      refine lv_iconst (v := nI 1) hx hb dX4_reach_63 (by decide) ?_
      refine ln_iadd hx hb dX4_reach_64 ?_
      refine ln_iast hx hb hK hP hD hS 18 (cw_c18 cy ad aw σ (ju_tl (ju_hd (ju_wa (ju_cb (ju_co (ju_fc (ju_fi J (nf fi)) (nf fc)) (nf (updN (z_co Z) b pr))) (nf (updN (z_cb Z) b cr))) (nf (updN (z_wa Z) ((z_tl Z) q) b))) (nf (z_hd Z))) (nf (z_tl Z)))) (by omega) (by decide) ((cp_18 cy ad aw σ (ju_tl (ju_hd (ju_wa (ju_cb (ju_co (ju_fc (ju_fi J (nf fi)) (nf fc)) (nf (updN (z_co Z) b pr))) (nf (updN (z_cb Z) b cr))) (nf (updN (z_wa Z) ((z_tl Z) q) b))) (nf (z_hd Z))) (nf (z_tl Z))) q (nI (((z_tl Z) q) + 1))).trans (congrArg (fun z => cw cy ad aw σ z) (by rw [show upd (j_tl (ju_tl (ju_hd (ju_wa (ju_cb (ju_co (ju_fc (ju_fi J (nf fi)) (nf fc)) (nf (updN (z_co Z) b pr))) (nf (updN (z_cb Z) b cr))) (nf (updN (z_wa Z) ((z_tl Z) q) b))) (nf (z_hd Z))) (nf (z_tl Z)))) q (nI (((z_tl Z) q) + 1)) = nf (updN (z_tl Z) q (((z_tl Z) q) + 1)) from nf_upd _ _ _, jc_tl]))) dX4_reach_65 (fun H locs hP hD hS => ?_)
      exact rw_v hx hb hr hlocks hS () (trivial) (by show va_P D vwCl (cw cy ad aw σ (ju_tl (ju_hd (ju_wa (ju_cb (ju_co (ju_fc (ju_fi J (nf fi)) (nf fc)) (nf (z_co (rcF b cr pr q Z)))) (nf (z_cb (rcF b cr pr q Z)))) (nf (z_wa (rcF b cr pr q Z)))) (nf (z_hd (rcF b cr pr q Z)))) (nf (z_tl (rcF b cr pr q Z))))) _; rw [rcF, if_pos ⟨c7, c25⟩]; exact hP) dX4_reach_66
