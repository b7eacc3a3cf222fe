/-! THE CLAIM OUT OF ONE WALK OF THE LAW'S BODY. Your part is whole_start (and what it stands on); all else here is the same for every law, but numbers. -/
def R_law : String := "NumberFerriesLaw"
def lw_P (b : Addr) (xs : List Int32) (args : Array Value) (s : State) : Prop := args = #[.ref b] ∧ s.IntsAt b xs ∧ xs.length ≤ 2560 ∧ (Jvm.Cond.and given_1 narrow_1).before args s = true
def lw_Q (_ : Array Value) (s : State) (o : Outcome) (t : State) : Prop := o = .returned (some (.int 1)) ∧ Framed s o t [] 600000 7302250
def lw_Z (below : List Frame) (a : Array Value) (s : State) : State → Prop := fun t => ∃ o, t.status = .running ∧ Ended t below o ∧ lw_Q a s o t
/-- the law's own end, with 1 on the stack, nothing written that was there before, its room as the claim has it -/
theorem lw_ret {p : Program} {l : Launch} {e : Env} {s : State} {m : MethodId} {below : List Frame} {meth : Method} {c : Code} {b : Nat} (hx : p.tables.exec = Jvm.exec) (hb : c.code = code) (hr : meth.sig.returnType = ret) (hlocks : meth.locks = false) {pc : Nat} {H : Heap} {ls : Array Slot} (hdg : decode code pc = .ok (.ireturn, 1)) : W p l e room_1 s m #[Value.ref b] below meth c H [] 600000 7302250 (lw_Z below #[Value.ref b] s) (F0 m pc ls [.int 1]) := by
  intro T hT X
  obtain ⟨fs, hret, hrun, hended, hW, hframe⟩ := X.leave (v := some (.int 1)) (hlocks := hlocks) (fun h => by rw [hr] at h; cases h)
  have hmeth' : T.vm.method? m = some meth := X.method'
  refine ⟨T.setFrames fs, ?_, .returned (some (.int 1)), hrun, hended, rfl, ⟨_, rfl⟩, hW, hframe⟩
  jvm_step X.here [X.here.top, hx, hb, hdg, hmeth', hr, ret, narrow_b1]
  (try refine ⟨rfl, ?_⟩); (try refine ⟨rfl, ?_⟩)
  first | (intro acts; rw [hret _ acts rfl rfl rfl]) | rw [hret _ _ rfl rfl rfl]
  exact Steps.refl _
/-- what holds at the law's entry: the machine, the code, the tables' words (any of lw_tbl by 'hts w (by decide +kernel)'), the script of L ints xs at the cell b, what the Statement gives of the start (any of its parts by flat_of_before) -/
def lw_At (p : Program) (s : State) (m : MethodId) (meth : Method) (c : Code) (b L : Nat) (xs : Nat → Int32) : Prop :=
  p.tables.exec = Jvm.exec ∧ c.code = code ∧ meth.sig.returnType = ret ∧ c.maxLocals = 4 ∧ s.vm.findClass R_law = some m.cls ∧ (∀ w ∈ lw_tbl, w.before #[Value.ref b] s = true) ∧ va_X b L xs s s.heap ∧ b < s.heap.size ∧ meth.locks = false ∧ (Jvm.Cond.and given_1 narrow_1).before #[Value.ref b] s = true
/-! rows for the law: two worlds side by side -/
def LA (s : State) : Nat → Prop := fun q => s.heap.size ≤ q
theorem D_left {A : Nat → Prop} {w1 w2 : va_W} (h : va_D A (w1 ++ w2)) : va_D A w1 := by
  refine ⟨fun i j p q hi hj e => h.1 i j p q ?_ ?_ e, fun k q hk => h.2 k q ?_⟩
  · rw [List.getElem?_append_left (List.getElem?_eq_some_iff.mp hi).1]; exact hi
  · rw [List.getElem?_append_left (List.getElem?_eq_some_iff.mp hj).1]; exact hj
  · rw [List.getElem?_append_left (List.getElem?_eq_some_iff.mp hk).1]; exact hk
theorem at_right {w1 w2 : va_W} {j : Nat} {q : Nat × va_E} (h : w2[j]? = some q) : (w1 ++ w2)[w1.length + j]? = some q := by
  rw [List.getElem?_append_right (by omega), show w1.length + j - w1.length = j by omega]; exact h
theorem D_right {A : Nat → Prop} {w1 w2 : va_W} (h : va_D A (w1 ++ w2)) : va_D A w2 := by
  refine ⟨fun i j p q hi hj e => ?_, fun k q hk => h.2 _ q (at_right hk)⟩
  have := h.1 _ _ p q (at_right hi) (at_right hj) e
  omega
theorem D_dis {A : Nat → Prop} {w1 w2 : va_W} (h : va_D A (w1 ++ w2)) : ∀ (i j : Nat) (p q : Nat × va_E), w1[i]? = some p → w2[j]? = some q → p.1 ≠ q.1 := by
  intro i j p q hi hj e
  have hl := (List.getElem?_eq_some_iff.mp hi).1
  have := h.1 i (w1.length + j) p q (by rw [List.getElem?_append_left hl]; exact hi) (at_right hj) e
  omega
theorem P_kept2 {D : va_G} {ws w2 : va_W} {H H1 : Heap} (hP2 : va_P D vwCl w2 H) (hdj : ∀ (i j : Nat) (p q : Nat × va_E), ws[i]? = some p → w2[j]? = some q → p.1 ≠ q.1) (hk : ∀ q : Nat, q < H.size → ¬ va_A ws H.size q → H1[q]? = H[q]?) : va_P D vwCl w2 H1 := by
  refine hP2.kept (fun k q hq => hk q.1 (hP2 k q hq).lt ?_)
  rintro (⟨i, e, hi⟩ | h)
  · exact hdj i k _ q hi hq rfl
  · have := (hP2 k q hq).lt; omega
section LR
variable {p : Program} {l : Launch} {e : Env} {R : Room} {s : State} {m : MethodId} {args : Array Value} {below : List Frame} {meth : Method} {c : Code} {H : Heap} {locs : List Loc} {cells slots : Nat} {Q : State → Prop} {cc : ByteArray} {pc : Nat} {ls : Array Slot} {rest : List Value}
variable {D : va_G} {cy : Nat → ClassId} {ws ws' : va_W} {a q0 n : Nat} {A : Nat → Prop} {H0 : Heap} {aw aS aV aT : Nat → Nat}
variable {nL maxL index : Nat} {own C host : String} {y : MethodName} {bytes : ByteArray} {rt : Option FieldType} {d b : Nat} {As st0 : List Value} {v : Int32} {ci N : Nat} {fs : List Value} {T : u_T}
theorem ln_sld (hx : p.tables.exec = Jvm.exec) (hb : c.code = cc) {b L : Nat} {xs : Nat → Int32} (hX : va_X b L xs s H0) (hbl : b < H0.size) (hbA : ¬ A b) (hS : va_S A H0 H locs) {i : Nat} (hi : i < L) (hL : L < 2 ^ 31) (hdg : decode cc pc = .ok (.iaload, 1)) (kk : W p l e R s m args below meth c H locs cells slots Q (F0 m (pc + 1) ls (.int (xs i) :: rest))) : W p l e R s m args below meth c H locs cells slots Q (F0 m pc ls (.int (nI i) :: .ref b :: rest)) := va_sld hx hb hX hbl hbA hS (vp_in_nI hi hL) hdg (by rw [nI_clamp (Nat.lt_trans hi hL)]; exact kk)
theorem cr_w2 {S : Type} {post : Int32 → S → Prop} {wd : S → va_W} {w2 : va_W} (S0 : CallFix p m c cc nL s args tg own) (hM : MW l y (Cond.code y bytes maxL rt :: tg) d (.ref b :: As) D cy ws post wd) (hG : GoodIn tg (wsV own index C y (Cond.code y bytes maxL rt :: tg))) (hd : y.cls = C ∧ y.cls ≠ "java/lang/invoke/MethodHandle" ∧ y.cls ≠ "java/lang/invoke/VarHandle" ∧ (parseMethodDescriptor y.desc).map (fun d => d.parameters.length) = some n) (hR : d + 1 ≤ R.frames ∧ 8 + (maxL + 11) + 40 * d ≤ R.locals) (hK : va_K D vwCl (tyL cy) s) (hN : kN s) (hP : va_P D vwCl ws H) (hD : va_D A ws) (hS : va_S A s.heap H locs) (hA : ∀ q, s.heap.size ≤ q → A q) (hP2 : va_P D vwCl w2 H) (hdj : ∀ (i j : Nat) (p q : Nat × va_E), ws[i]? = some p → w2[j]? = some q → p.1 ≠ q.1) (q0 : Nat) (he : ws[q0]? = some (b, .inr (ci, fs))) (hc : vwCl[ci]? = some (C, T, N)) (hn : As.length = n) (hsize : ls.size = nL) (hstack : st0 = As.reverse ++ .ref b :: rest) (hW : (rest.map fun v => v.category).sum ≤ 8) (hdg : decode cc pc = .ok (.invokevirtual index, 3)) (hcs : cells ≤ R.cells ∧ slots ≤ R.slots) (kk : ∀ (r : Int32) (u : S) (H1 : Heap) (locs1 : List Loc), post r u → va_P D vwCl (wd u) H1 → va_P D vwCl w2 H1 → va_S A s.heap H1 locs1 → W p l e R s m args below meth c H1 locs1 cells slots Q (F0 m (pc + 3) ls (.int r :: rest))) : W p l e R s m args below meth c H locs cells slots Q (F0 m pc ls st0) :=
  va_calli (va_runV (As := As) (rest := rest) S0 (hM H.size) (cwV n S0.2.2.2.2 hG rfl rfl rfl hd hR) ⟨fun a U g mk q => ⟨q.1, q.2.1, q.2.2.1, va_K.moved (u := U) (U := U.calling g mk a) (Vm.Alike.refl U.vm) q.2.2.2.1, kN.same (s := U) (U := U.calling g mk a) rfl q.2.2.2.2.1, q.2.2.2.2.2⟩, va_recv hK hP hc he, fun U hU hW => ⟨rfl, by rw [hU], by rw [hU]; exact hP, va_K.moved hW.alike hK, kN.warm hW hN, hD.weaken (fun _ _ _ _ => trivial)⟩⟩ rfl hn hsize hstack (lv_room hW) hdg hcs) hS (fun q _ h => fr_all hD hS hA q h) (fr_all hD hS hA) (fun r u t H1 locs1 ht _ hp hB _ hk hS1 => kk r u H1 locs1 hp (by rw [← ht]; exact hB) (P_kept2 hP2 hdj hk) hS1)
theorem kw_w2 {S : Type} {post : Int32 → S → Prop} {wd : S → va_W} {w2 : va_W} (S0 : CallFix p m c cc nL s args tg own) (hM : MWC l y (Cond.code y bytes maxL rt :: tg) d (.ref b :: As) D cy ws aw aS aV aT post wd) (hG : GoodIn tg (wsV own index C y (Cond.code y bytes maxL rt :: tg))) (hd : y.cls = C ∧ y.cls ≠ "java/lang/invoke/MethodHandle" ∧ y.cls ≠ "java/lang/invoke/VarHandle" ∧ (parseMethodDescriptor y.desc).map (fun d => d.parameters.length) = some n) (hR : d + 1 ≤ R.frames ∧ 8 + (maxL + 11) + 40 * d ≤ R.locals) (hK : va_K D vwCl (tyL cy) s) (hN : kN s) (hP : va_P D vwCl ws H) (hD : va_D A ws) (hS : va_S A s.heap H locs) (hA : ∀ q, s.heap.size ≤ q → A q) (hC : kC aw aS aV aT A s s.heap) (hP2 : va_P D vwCl w2 H) (hdj : ∀ (i j : Nat) (p q : Nat × va_E), ws[i]? = some p → w2[j]? = some q → p.1 ≠ q.1) (q0 : Nat) (he : ws[q0]? = some (b, .inr (ci, fs))) (hc : vwCl[ci]? = some (C, T, N)) (hn : As.length = n) (hsize : ls.size = nL) (hstack : st0 = As.reverse ++ .ref b :: rest) (hW : (rest.map fun v => v.category).sum ≤ 8) (hdg : decode cc pc = .ok (.invokevirtual index, 3)) (hcs : cells ≤ R.cells ∧ slots ≤ R.slots) (kk : ∀ (r : Int32) (u : S) (H1 : Heap) (locs1 : List Loc), post r u → va_P D vwCl (wd u) H1 → va_P D vwCl w2 H1 → va_S A s.heap H1 locs1 → W p l e R s m args below meth c H1 locs1 cells slots Q (F0 m (pc + 3) ls (.int r :: rest))) : W p l e R s m args below meth c H locs cells slots Q (F0 m pc ls st0) :=
  va_calli (va_runV (As := As) (rest := rest) S0 (hM H.size) (cwV n S0.2.2.2.2 hG rfl rfl rfl hd hR) ⟨fun a U g mk q => ⟨q.1, q.2.1, q.2.2.1, va_K.moved (u := U) (U := U.calling g mk a) (Vm.Alike.refl U.vm) q.2.2.2.1, kN.same (s := U) (U := U.calling g mk a) rfl q.2.2.2.2.1, q.2.2.2.2.2.1, kC.same (u := U) (U := U.calling g mk a) rfl q.2.2.2.2.2.2⟩, va_recv hK hP hc he, fun U hU hW => ⟨rfl, by rw [hU], by rw [hU]; exact hP, va_K.moved hW.alike hK, kN.warm hW hN, hD.weaken (fun _ _ _ _ => trivial), by rw [hU]; exact kC.warm hW (hC.calw hD hS hA)⟩⟩ rfl hn hsize hstack (lv_room hW) hdg hcs) hS (fun q _ h => fr_all hD hS hA q h) (fr_all hD hS hA) (fun r u t H1 locs1 ht _ hp hB _ hk hS1 => kk r u H1 locs1 hp (by rw [← ht]; exact hB) (P_kept2 hP2 hdj hk) hS1)
end LR
/-- what holds all through the law -/
def LK (p : Program) (s : State) (m : MethodId) (c : Code) (b L : Nat) (xs : Nat → Int32) (D : va_G) (cy : Nat → ClassId) (ac ad aw aS aV aT : Nat → Nat) : Prop :=
  p.tables.exec = Jvm.exec ∧ c.code = cL_law ∧ c.maxLocals = 4 ∧ s.vm.findClass RL = some m.cls ∧ (∀ w ∈ tg, w.before #[Value.ref b] s = true) ∧ va_X b L xs s s.heap ∧ b < s.heap.size ∧ L ≤ 2560 ∧ va_K D vwCl (tyL cy) s ∧ kN s ∧ kC aw aS aV aT (LA s) s s.heap ∧ (∀ (σ : Sg) (J : Js) (σ' : Sg) (T : Ms), va_D (LA s) (cw cy ac aw σ J ++ mw cy ad σ' T))
/-- the two worlds stand at one state -/
def LSt (s : State) (D : va_G) (cy : Nat → ClassId) (ac ad aw : Nat → Nat) (σ : Sg) (J : Js) (T : Ms) (H : Heap) (locs : List Loc) : Prop := wfS σ ∧ wfJ σ J ∧ va_P D vwCl (cw cy ac aw σ J) H ∧ va_P D vwCl (mw cy ad σ T) H ∧ va_S (LA s) s.heap H locs
abbrev LWw (p : Program) (l : Launch) (e : Env) (s : State) (m : MethodId) (below : List Frame) (meth : Method) (c : Code) (b : Nat) (H : Heap) (locs : List Loc) (g : JFrame) : Prop := W p l e room_1 s m #[Value.ref b] below meth c H locs 71 20296 (lw_Z below #[Value.ref b] s) g
