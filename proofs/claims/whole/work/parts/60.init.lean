theorem inst0 : Cond.instantiable RX0 5 ∈ tg := tb_at 123 (by decide +kernel)
theorem mlo0 : Cond.methodLink RX0 3 Lib.objectInit ∈ tg := tb_at 127 (by decide +kernel)
theorem inst1 : Cond.instantiable RX1 2 ∈ tg := tb_at 200 (by decide +kernel)
theorem mlo1 : Cond.methodLink RX1 3 Lib.objectInit ∈ tg := tb_at 204 (by decide +kernel)
theorem inst2 : Cond.instantiable RX2 11 ∈ tg := tb_at 193 (by decide +kernel)
theorem mlo2 : Cond.methodLink RX2 3 Lib.objectInit ∈ tg := tb_at 197 (by decide +kernel)
theorem inst3 : Cond.instantiable RX3 9 ∈ tg := tb_at 47 (by decide +kernel)
theorem mlo3 : Cond.methodLink RX3 3 Lib.objectInit ∈ tg := tb_at 51 (by decide +kernel)
theorem inst4 : Cond.instantiable RX4 8 ∈ tg := tb_at 294 (by decide +kernel)
theorem mlo4 : Cond.methodLink RX4 3 Lib.objectInit ∈ tg := tb_at 298 (by decide +kernel)
theorem inst5 : Cond.instantiable RX5 5 ∈ tg := tb_at 57 (by decide +kernel)
theorem mlo5 : Cond.methodLink RX5 1 Lib.objectInit ∈ tg := tb_at 61 (by decide +kernel)
theorem inst6 : Cond.instantiable RX6 8 ∈ tg := tb_at 256 (by decide +kernel)
theorem mlo6 : Cond.methodLink RX6 3 Lib.objectInit ∈ tg := tb_at 260 (by decide +kernel)
theorem inst7 : Cond.instantiable RX7 2 ∈ tg := tb_at 31 (by decide +kernel)
theorem mlo7 : Cond.methodLink RX7 3 Lib.objectInit ∈ tg := tb_at 35 (by decide +kernel)
theorem inst8 : Cond.instantiable RX8 6 ∈ tg := tb_at 88 (by decide +kernel)
theorem mlo8 : Cond.methodLink RX8 3 Lib.objectInit ∈ tg := tb_at 92 (by decide +kernel)
theorem inst10 : Cond.instantiable RX10 8 ∈ tg := tb_at 23 (by decide +kernel)
theorem mlo10 : Cond.methodLink RX10 3 Lib.objectInit ∈ tg := tb_at 27 (by decide +kernel)
theorem inst11 : Cond.instantiable RX11 31 ∈ tg := tb_at 857 (by decide +kernel)
theorem mlo11 : Cond.methodLink RX11 1 Lib.objectInit ∈ tg := tb_at 861 (by decide +kernel)
theorem imo : Cond.instanceMethod Lib.objectInit ∈ tg := tb_at 28 (by decide +kernel)
theorem cdo : Cond.code Lib.objectInit ⟨#[0xb1]⟩ 1 none ∈ tg := tb_at 29 (by decide +kernel)
theorem arI : Cond.arrayClass .int ∈ tg := tb_at 45 (by decide +kernel)
theorem arZ : Cond.arrayClass .boolean ∈ tg := tb_at 956 (by decide +kernel)
theorem imX7_init : Cond.instanceMethod yX7_init ∈ tg := tb_at 33 (by decide +kernel)
theorem imX5_init : Cond.instanceMethod yX5_init ∈ tg := tb_at 59 (by decide +kernel)
theorem imX8_init : Cond.instanceMethod yX8_init ∈ tg := tb_at 90 (by decide +kernel)
theorem imX0_init : Cond.instanceMethod yX0_init ∈ tg := tb_at 125 (by decide +kernel)
theorem imX1_init : Cond.instanceMethod yX1_init ∈ tg := tb_at 202 (by decide +kernel)
def kN2l : List Cond := [.methodLinkNest RX10 11 yX7_init "NumberFerries", .methodLinkNest RX3 25 yX5_init "NumberFerries", .methodLinkNest RX3 50 yX8_init "NumberFerries", .methodLinkNest RX3 51 yX0_init "NumberFerries", .methodLinkNest RX2 32 yX1_init "NumberFerries", .methodLinkNest RX10 62 yX5_init "NumberFerries"]
def kN2 (U : State) : Prop := (∀ w ∈ kN2l, va_Nw w U) ∧ va_AO RX8 U ∧ va_AO RX0 U ∧ va_AO RX5 U ∧ va_AO RX1 U
theorem kN2.warm {s U : State} (hW : s.WarmedH U.vm) (h : kN2 s) : kN2 U := by
  refine ⟨fun w hw => ?_, va_AO.moved hW.alike h.2.1, va_AO.moved hW.alike h.2.2.1, va_AO.moved hW.alike h.2.2.2.1, va_AO.moved hW.alike h.2.2.2.2⟩
  have h1 := h.1 w hw
  simp only [kN2l, List.mem_cons, List.not_mem_nil, or_false] at hw
  rcases hw with rfl | rfl | rfl | rfl | rfl | rfl <;> exact va_Nw.warmM hW h1
theorem kN2.same {s U : State} (hv : s.vm = U.vm) (h : kN2 s) : kN2 U := by
  have ha : s.vm.Alike U.vm := by rw [hv]; exact Vm.Alike.refl _
  refine ⟨fun w hw => ?_, va_AO.moved ha h.2.1, va_AO.moved ha h.2.2.1, va_AO.moved ha h.2.2.2.1, va_AO.moved ha h.2.2.2.2⟩
  have h1 := h.1 w hw
  simp only [kN2l, List.mem_cons, List.not_mem_nil, or_false] at hw
  rcases hw with rfl | rfl | rfl | rfl | rfl | rfl <;> exact va_Nw.same rfl hv h1
def rI (d mc ms : Nat) : Room := { frames := d, cells := mc, slots := ms, locals := 40 * d }
/-- a constructor's contract -/
def MI {S : Type} (l : Launch) (y : MethodName) (q : List Cond) (d mc ms : Nat) (av : List Value) (D : va_G) (cy : Nat → ClassId) (ws : va_W) (aw aS aV aT : Nat → Nat) (post : S → Prop) (wd : S → va_W) : Prop := ∀ sz : Nat, Met l y q (rI d mc ms) (va_Pc av (fun U => U.heap.size = sz ∧ va_P D vwCl ws U.heap ∧ va_K D vwCl (tyL cy) U ∧ kN2 U ∧ va_D (fun _ => True) ws ∧ kC aw aS aV aT (va_A ws sz) U U.heap)) (va_Qv post (fun u t => va_P D vwCl (wd u) t.heap ∧ va_D (va_A ws sz) (wd u)) (va_A ws sz)) mc ms (va_A ws sz)
theorem ka_eq {D : va_G} {cy : Nat → ClassId} {s : State} {cA : ClassId} {ty : FieldType} (h : va_K D vwCl (tyL cy ++ [(cA, ty)]) s) {k : Nat} {cB : ClassId} (hk : (tyL cy)[k]? = some (cB, ty)) : cA = cB := by
  have h1 : (tyL cy ++ [(cA, ty)])[6]? = some (cA, ty) := rfl
  have h2 : (tyL cy ++ [(cA, ty)])[k]? = some (cB, ty) := by
    rw [List.getElem?_append_left (List.getElem?_eq_some_iff.mp hk).1]; exact hk
  have e1 := (h.2 6 _ h1).2
  have e2 := (h.2 k _ h2).2
  cases ty with
  | object C =>
    obtain ⟨_, _, _, _, _, f1⟩ := e1
    obtain ⟨_, _, _, _, _, f2⟩ := e2
    exact Option.some.inj (f1.symm.trans f2)
  | _ => exact Option.some.inj (Eq.trans (Eq.symm e1) e2)
theorem va_P_arr {D : va_G} {ws : va_W} {H : Heap} {k a n : Nat} {cA : ClassId} {f g : Nat → Option Nat} (h : va_P D vwCl ws H) (hk : ws[k]? = some (a, .inl (cA, n, .inr (.inr (.inr (.inr f)))))) (hfg : ∀ i, i < n → f i = g i) : va_P D vwCl (ws.set k (a, .inl (cA, n, .inr (.inr (.inr (.inr g)))))) H := by
  have e : vp_cell cA (n, .inr (.inr (.inr (.inr f)))) = vp_cell cA (n, .inr (.inr (.inr (.inr g)))) := by
    show arrV cA n (fun j => va_rf (f j)) = arrV cA n (fun j => va_rf (g j))
    unfold arrV
    congr 2
    funext j
    show va_rf (f j.val) = va_rf (g j.val)
    rw [hfg j.val j.isLt]
  intro j q hj
  by_cases c : k = j
  · subst c
    have hl := (List.getElem?_eq_some_iff.mp hk).1
    rw [List.getElem?_set_self hl] at hj
    cases hj
    have h1 := h k _ hk
    show H[a]? = some (vp_cell cA (n, .inr (.inr (.inr (.inr g)))))
    rw [← e]
    exact h1
  · rw [List.getElem?_set_ne c] at hj
    exact h j q hj
theorem va_D_arr {A : Nat → Prop} {ws : va_W} {k a : Nat} {e e' : va_E} (h : va_D A ws) (hk : ws[k]? = some (a, e)) : va_D A (ws.set k (a, e')) := h.set hk
section KI
variable {p : Program} {l : Launch} {e : Env} {R : Room} {s : State} {m : MethodId} {args : Array Value} {below : List Frame} {meth : Method} {c : Code} {H : Heap} {locs : List Loc} {cells slots : Nat} {Q : State → Prop} {cc : ByteArray} {pc : Nat} {ls : Array Slot} {rest : List Value}
variable {D : va_G} {cy : Nat → ClassId} {ws ws' : va_W} {a q0 n : Nat} {A : Nat → Prop} {H0 : Heap} {aw aS aV aT : Nat → Nat}
variable {nL maxL index : Nat} {own C host : String} {y : MethodName} {bytes : ByteArray} {rt : Option FieldType} {d b : Nat} {As st0 : List Value} {v : Int32} {ci N : Nat} {fs : List Value} {T : u_T}
variable {wc wr : va_W} {mc ms : Nat}
theorem va_P_map {D : va_G} {ws wc : va_W} {H : Heap} {isC : List Nat} (hP : va_P D vwCl ws H) (hCw : isC.map (fun i => ws[i]?) = wc.map some) : va_P D vwCl wc H := by
  intro k q hk
  have h1 : (isC.map (fun i => ws[i]?))[k]? = some (some q) := by rw [hCw, List.getElem?_map, hk]; rfl
  rw [List.getElem?_map] at h1
  cases hi : isC[k]? with
  | none => rw [hi] at h1; cases h1
  | some i => rw [hi] at h1; exact hP i q (Option.some.inj h1)
theorem ci_n {S : Type} {post : S → Prop} {wd : S → va_W} (S0 : CallFix p m c cc nL s args tg own) (hM : MI l y (Cond.code y bytes maxL none :: tg) d mc ms (.ref b :: As) D cy wc aw aS aV aT post wd) (hl : va_Nw (.methodLinkNest own index y host) s) (hi : (Cond.instanceMethod y).before args s = true) (hini : (Cond.initialized y.cls).before args s = true) (hG : GoodIn tg (Cond.code y bytes maxL none :: tg)) (hy : y.name = "<init>") (hd : y.cls ≠ "java/lang/invoke/MethodHandle" ∧ y.cls ≠ "java/lang/invoke/VarHandle" ∧ (parseMethodDescriptor y.desc).map (fun d => d.parameters.length) = some n) (hR : d + 1 ≤ R.frames ∧ 8 + (maxL + 11) + 40 * d ≤ R.locals) (hK : va_K D vwCl (tyL cy) s) (hN : kN2 s) (hP : va_P D vwCl ws H) (hD : va_D A ws) (hS : va_S A s.heap H locs) (hA : ∀ q, s.heap.size ≤ q → A q) (hC : kC aw aS aV aT A s s.heap) (isC isR : List Nat) (hCw : isC.map (fun i => ws[i]?) = wc.map some) (hRw : isR.map (fun i => ws[i]?) = wr.map some) (hnd : va_nd isR = true) (hdis : ∀ i ∈ isR, i ∉ isC) (hnC : va_nd isC = true) (hn : As.length = n) (hsize : ls.size = nL) (hstack : st0 = As.reverse ++ .ref b :: rest) (hW : (rest.map fun v => v.category).sum ≤ 8) (hdg : decode cc pc = .ok (.invokespecial index, 3)) (hcs : cells + mc ≤ R.cells ∧ slots + ms ≤ R.slots) (kk : ∀ (u : S) (H1 : Heap) (locs1 : List Loc), post u → va_P D vwCl (wr ++ wd u) H1 → va_D A (wr ++ wd u) → va_S A s.heap H1 locs1 → W p l e R s m args below meth c H1 locs1 (cells + mc) (slots + ms) Q (F0 m (pc + 3) ls rest)) : W p l e R s m args below meth c H locs cells slots Q (F0 m pc ls st0) := by
  have hFc := va_free (wc := wc) hD hS hA isC hCw
  have hPc : va_P D vwCl wc H := va_P_map hP hCw
  have hDc := hD.sub (ws' := wc) isC hnC hCw
  refine va_callv (va_runIN (As := As) (rest := rest) S0 (hM H.size) ⟨va_cnB n S0.2.2.2.2 hG rfl rfl rfl hl hini hd hR, hy, hi⟩ ⟨fun a U g mk q => ⟨q.1, q.2.1, q.2.2.1, va_K.moved (u := U) (U := U.calling g mk a) (Vm.Alike.refl U.vm) q.2.2.2.1, kN2.same (s := U) (U := U.calling g mk a) rfl q.2.2.2.2.1, q.2.2.2.2.2.1, kC.same (u := U) (U := U.calling g mk a) rfl q.2.2.2.2.2.2⟩, fun U hU hW => ⟨rfl, by rw [hU], by rw [hU]; exact hPc, va_K.moved hW.alike hK, kN2.warm hW hN, hDc.weaken (fun _ _ _ _ => trivial), by rw [hU]; exact kC.warm hW ((hC.kept hS.2.1).narrow hFc)⟩⟩ rfl hn hsize hstack (lv_room hW) hdg hcs) hS (fun q _ h => hFc q h) hFc (fun u t H1 locs1 ht _ hp hB _ hk1 hS1 => ?_)
  obtain ⟨hP1, hD1⟩ := hB
  rw [ht] at hP1
  obtain ⟨h1, h2⟩ := va_join (wr := wr) (w1 := wd u) hP hD isC isR hCw hRw hnd hdis hk1 hFc hP1 hD1
  exact kk u H1 locs1 hp h1 h2 hS1
theorem ci_p {S : Type} {post : S → Prop} {wd : S → va_W} (S0 : CallFix p m c cc nL s args tg own) (hM : MI l y (Cond.code y bytes maxL none :: tg) d mc ms (.ref b :: As) D cy wc aw aS aV aT post wd) (hl : (Cond.methodLink own index y).before args s = true) (hi : (Cond.instanceMethod y).before args s = true) (hini : (Cond.initialized y.cls).before args s = true) (hG : GoodIn tg (Cond.code y bytes maxL none :: tg)) (hy : y.name = "<init>") (hd : y.cls ≠ "java/lang/invoke/MethodHandle" ∧ y.cls ≠ "java/lang/invoke/VarHandle" ∧ (parseMethodDescriptor y.desc).map (fun d => d.parameters.length) = some n) (hR : d + 1 ≤ R.frames ∧ 8 + (maxL + 11) + 40 * d ≤ R.locals) (hK : va_K D vwCl (tyL cy) s) (hN : kN2 s) (hP : va_P D vwCl ws H) (hD : va_D A ws) (hS : va_S A s.heap H locs) (hA : ∀ q, s.heap.size ≤ q → A q) (hC : kC aw aS aV aT A s s.heap) (isC isR : List Nat) (hCw : isC.map (fun i => ws[i]?) = wc.map some) (hRw : isR.map (fun i => ws[i]?) = wr.map some) (hnd : va_nd isR = true) (hdis : ∀ i ∈ isR, i ∉ isC) (hnC : va_nd isC = true) (hn : As.length = n) (hsize : ls.size = nL) (hstack : st0 = As.reverse ++ .ref b :: rest) (hW : (rest.map fun v => v.category).sum ≤ 8) (hdg : decode cc pc = .ok (.invokespecial index, 3)) (hcs : cells + mc ≤ R.cells ∧ slots + ms ≤ R.slots) (kk : ∀ (u : S) (H1 : Heap) (locs1 : List Loc), post u → va_P D vwCl (wr ++ wd u) H1 → va_D A (wr ++ wd u) → va_S A s.heap H1 locs1 → W p l e R s m args below meth c H1 locs1 (cells + mc) (slots + ms) Q (F0 m (pc + 3) ls rest)) : W p l e R s m args below meth c H locs cells slots Q (F0 m pc ls st0) := by
  have hFc := va_free (wc := wc) hD hS hA isC hCw
  have hPc : va_P D vwCl wc H := va_P_map hP hCw
  have hDc := hD.sub (ws' := wc) isC hnC hCw
  refine va_callv (va_runI (As := As) (rest := rest) S0 (hM H.size) (cwI n S0.2.2.2.2 hG rfl rfl rfl hini hl hi hy hd hR) ⟨fun a U g mk q => ⟨q.1, q.2.1, q.2.2.1, va_K.moved (u := U) (U := U.calling g mk a) (Vm.Alike.refl U.vm) q.2.2.2.1, kN2.same (s := U) (U := U.calling g mk a) rfl q.2.2.2.2.1, q.2.2.2.2.2.1, kC.same (u := U) (U := U.calling g mk a) rfl q.2.2.2.2.2.2⟩, fun U hU hW => ⟨rfl, by rw [hU], by rw [hU]; exact hPc, va_K.moved hW.alike hK, kN2.warm hW hN, hDc.weaken (fun _ _ _ _ => trivial), by rw [hU]; exact kC.warm hW ((hC.kept hS.2.1).narrow hFc)⟩⟩ rfl hn hsize hstack (lv_room hW) hdg hcs) hS (fun q _ h => hFc q h) hFc (fun u t H1 locs1 ht _ hp hB _ hk1 hS1 => ?_)
  obtain ⟨hP1, hD1⟩ := hB
  rw [ht] at hP1
  obtain ⟨h1, h2⟩ := va_join (wr := wr) (w1 := wd u) hP hD isC isR hCw hRw hnd hdis hk1 hFc hP1 hD1
  exact kk u H1 locs1 hp h1 h2 hS1
theorem rI_v {S : Type} {post : S → Prop} {wd : S → va_W} (hx : p.tables.exec = Jvm.exec) (hb : c.code = cc) (hr : meth.sig.returnType = none) (hlocks : meth.locks = false) (hS : va_S A s.heap H locs) (u : S) (hp : post u) (hP : va_P D vwCl (wd u) H) (hD : va_D A (wd u)) (hd : decode cc pc = .ok (.return_, 1)) : W p l e R s m args below meth c H locs mc ms (MQ below (va_Qv post (fun u t => va_P D vwCl (wd u) t.heap ∧ va_D A (wd u)) A) args s mc ms A) (F0 m pc ls []) := W.vret hx hb hr (fun t ht _ => ⟨⟨u, rfl, hp, by rw [ht]; exact hP, hD⟩, hS.F ht⟩) hS.2.2 hd
end KI
