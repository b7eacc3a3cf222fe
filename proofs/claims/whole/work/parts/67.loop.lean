theorem lt5 {L i : Nat} (hL : L ≤ 2560) (hi : i < 2 ^ 20) : (nI L - nI 5 < nI i) ↔ L < i + 5 := by
  have h1 : (nI L - nI 5).toInt = (L : Int) - 5 := by
    rcases (show L = 0 ∨ L = 1 ∨ L = 2 ∨ L = 3 ∨ L = 4 ∨ 5 ≤ L by omega) with rfl | rfl | rfl | rfl | rfl | h
    · rfl
    · rfl
    · rfl
    · rfl
    · rfl
    · rw [pk_sub h, nI_toInt (by omega)]; omega
  rw [Int32.lt_iff_toInt_lt, h1, nI_toInt (by omega)]
  omega
set_option maxHeartbeats 4000000 in
set_option maxRecDepth 100000 in
theorem law_loop {p : Program} {l : Launch} {e : Env} {s : State} {m : MethodId} {below : List Frame} {meth : Method} {c : Code} {b L : Nat} {xs : Nat → Int32} {D : va_G} {cy : Nat → ClassId} {ac ad aw aS aV aT : Nat → Nat} (K : LK p s m c b L xs D cy ac ad aw aS aV aT) (hr : meth.sig.returnType = ret) (hlocks : meth.locks = false) : ∀ (k i : Nat), L ≤ i + 5 * k → i ≤ 2565 → ∀ (σ : Sg) (J : Js) (T : Ms) (H : Heap) (locs : List Loc) (ls : Array Slot), LSt s D cy ac ad aw σ J T H locs → lv_has ls 4 [(3, .int (nI i)), (2, .ref (ad 0)), (1, .ref (ac 0)), (0, .ref b)] → LWw p l e s m below meth c b H locs (F0 m 18 ls []) := by
  obtain ⟨hx, hb, hml, hown, hts, hX, hbl, hL, hK, hN, hC, hDD⟩ := id K
  have hA : ∀ q : Nat, s.heap.size ≤ q → LA s q := fun _ h => h
  have hbA : ¬ LA s b := Nat.not_le.mpr hbl
  have hend : ∀ (H : Heap) (locs : List Loc) (ls : Array Slot), va_S (LA s) s.heap H locs → LWw p l e s m below meth c b H locs (F0 m 889 ls []) := by
    intro H locs ls hS
    refine va_forget (fun q hq => hS.2.2 q hq) ?_
    refine W.widen (k := 600000) (n := 7302250) (Nat.le_of_ble_eq_true rfl) (Nat.le_of_ble_eq_true rfl) ?_
    refine lv_iconst (v := 1) hx hb dL_law_889 (by decide) ?_
    exact lw_ret hx hb hr hlocks dL_law_890
  intro k
  induction k with
  | zero =>
    intro i hk hi5 σ J T H locs ls S hl
    refine lv_iload_n hx hb dL_law_18 rfl (lv_at hl 0 rfl) ?_
    refine lv_aload_n hx hb dL_law_19 rfl (lv_at hl 3 rfl) ?_
    refine va_slen hx hb hX hbl hbA S.2.2.2.2 dL_law_20 ?_
    refine lv_iconst (v := nI 5) hx hb dL_law_21 (by decide) ?_
    refine lv_isub hx hb dL_law_22 ?_
    refine lv_icmp_gt (tgt := 889) hx hb dL_law_23 (by decide) (fun _ => hend _ _ _ S.2.2.2.2) (fun h => absurd ((lt5 hL (by omega)).mpr (by omega)) h)
  | succ k ih =>
    intro i hk hi5 σ J T H locs ls S hl
    refine lv_iload_n hx hb dL_law_18 rfl (lv_at hl 0 rfl) ?_
    refine lv_aload_n hx hb dL_law_19 rfl (lv_at hl 3 rfl) ?_
    refine va_slen hx hb hX hbl hbA S.2.2.2.2 dL_law_20 ?_
    refine lv_iconst (v := nI 5) hx hb dL_law_21 (by decide) ?_
    refine lv_isub hx hb dL_law_22 ?_
    refine lv_icmp_gt (tgt := 889) hx hb dL_law_23 (by decide) (fun _ => hend _ _ _ S.2.2.2.2) (fun h => ?_)
    have hi : i + 5 ≤ L := Nat.not_lt.mp (fun z => h ((lt5 hL (by omega)).mpr z))
    have kk : ∀ (σ : Sg) (J : Js) (T : Ms) (H : Heap) (locs : List Loc), LSt s D cy ac ad aw σ J T H locs → LWw p l e s m below meth c b H locs (F0 m 883 ls []) := by
      intro σ J T H locs S
      refine ln_iinc (lv' := [(3, .int (nI (i + 5))), (2, .ref (ad 0)), (1, .ref (ac 0)), (0, .ref b)]) hx hb dL_law_883 hl (k := 0) (n := 5) rfl (by decide) rfl (fun ls hl => ?_)
      refine lv_goto (tgt := 18) hx hb dL_law_886 (by decide) ?_
      exact ih (i + 5) (by omega) (by omega) σ J T H locs ls S hl
    refine lv_aload_n hx hb dL_law_26 rfl (lv_at hl 3 rfl) ?_
    refine lv_iload_n hx hb dL_law_27 rfl (lv_at hl 0 rfl) ?_
    refine ln_sld hx hb hX hbl hbA S.2.2.2.2 (i := i) (by omega) (by omega) dL_law_28 ?_
    refine lv_bipush (v := nI 31) hx hb dL_law_29 (by decide) ?_
    refine lv_iand hx hb dL_law_31 ?_
    generalize xs i &&& nI 31 = v
    rcases sw_in (n := 25) (by decide) v with ⟨j, hj25, rfl⟩ | hout
    · rcases (show j = 0 ∨ j = 1 ∨ j = 2 ∨ j = 3 ∨ j = 4 ∨ j = 5 ∨ j = 6 ∨ j = 7 ∨ j = 8 ∨ j = 9 ∨ j = 10 ∨ j = 11 ∨ j = 12 ∨ j = 13 ∨ j = 14 ∨ j = 15 ∨ j = 16 ∨ j = 17 ∨ j = 18 ∨ j = 19 ∨ j = 20 ∨ j = 21 ∨ j = 22 ∨ j = 23 ∨ j = 24 by omega) with rfl | rfl | rfl | rfl | rfl | rfl | rfl | rfl | rfl | rfl | rfl | rfl | rfl | rfl | rfl | rfl | rfl | rfl | rfl | rfl | rfl | rfl | rfl | rfl | rfl
      · refine lv_tableIn (tgt := 148) hx hb dL_law_32 (by decide) (by decide) rfl (by decide) ?_
        exact lc_0 K hi hl S kk
      · refine lv_tableIn (tgt := 211) hx hb dL_law_32 (by decide) (by decide) rfl (by decide) ?_
        exact lc_1 K hi hl S kk
      · refine lv_tableIn (tgt := 224) hx hb dL_law_32 (by decide) (by decide) rfl (by decide) ?_
        exact lc_2 K hi hl S kk
      · refine lv_tableIn (tgt := 237) hx hb dL_law_32 (by decide) (by decide) rfl (by decide) ?_
        exact lc_3 K hi hl S kk
      · refine lv_tableIn (tgt := 250) hx hb dL_law_32 (by decide) (by decide) rfl (by decide) ?_
        exact lc_4 K hi hl S kk
      · refine lv_tableIn (tgt := 283) hx hb dL_law_32 (by decide) (by decide) rfl (by decide) ?_
        exact lc_5 K hi hl S kk
      · refine lv_tableIn (tgt := 316) hx hb dL_law_32 (by decide) (by decide) rfl (by decide) ?_
        exact lc_6 K hi hl S kk
      · refine lv_tableIn (tgt := 349) hx hb dL_law_32 (by decide) (by decide) rfl (by decide) ?_
        exact lc_7 K hi hl S kk
      · refine lv_tableIn (tgt := 382) hx hb dL_law_32 (by decide) (by decide) rfl (by decide) ?_
        exact lc_8 K hi hl S kk
      · refine lv_tableIn (tgt := 415) hx hb dL_law_32 (by decide) (by decide) rfl (by decide) ?_
        exact lc_9 K hi hl S kk
      · refine lv_tableIn (tgt := 438) hx hb dL_law_32 (by decide) (by decide) rfl (by decide) ?_
        exact lc_10 K hi hl S kk
      · refine lv_tableIn (tgt := 451) hx hb dL_law_32 (by decide) (by decide) rfl (by decide) ?_
        exact lc_11 K hi hl S kk
      · refine lv_tableIn (tgt := 474) hx hb dL_law_32 (by decide) (by decide) rfl (by decide) ?_
        exact lc_12 K hi hl S kk
      · refine lv_tableIn (tgt := 497) hx hb dL_law_32 (by decide) (by decide) rfl (by decide) ?_
        exact lc_13 K hi hl S kk
      · refine lv_tableIn (tgt := 530) hx hb dL_law_32 (by decide) (by decide) rfl (by decide) ?_
        exact lc_14 K hi hl S kk
      · refine lv_tableIn (tgt := 563) hx hb dL_law_32 (by decide) (by decide) rfl (by decide) ?_
        exact lc_15 K hi hl S kk
      · refine lv_tableIn (tgt := 606) hx hb dL_law_32 (by decide) (by decide) rfl (by decide) ?_
        exact lc_16 K hi hl S kk
      · refine lv_tableIn (tgt := 649) hx hb dL_law_32 (by decide) (by decide) rfl (by decide) ?_
        exact lc_17 K hi hl S kk
      · refine lv_tableIn (tgt := 672) hx hb dL_law_32 (by decide) (by decide) rfl (by decide) ?_
        exact lc_18 K hi hl S kk
      · refine lv_tableIn (tgt := 725) hx hb dL_law_32 (by decide) (by decide) rfl (by decide) ?_
        exact lc_19 K hi hl S kk
      · refine lv_tableIn (tgt := 768) hx hb dL_law_32 (by decide) (by decide) rfl (by decide) ?_
        exact lc_20 K hi hl S kk
      · refine lv_tableIn (tgt := 801) hx hb dL_law_32 (by decide) (by decide) rfl (by decide) ?_
        exact lc_21 K hi hl S kk
      · refine lv_tableIn (tgt := 834) hx hb dL_law_32 (by decide) (by decide) rfl (by decide) ?_
        exact lc_22 K hi hl S kk
      · refine lv_tableIn (tgt := 847) hx hb dL_law_32 (by decide) (by decide) rfl (by decide) ?_
        exact lc_23 K hi hl S kk
      · refine lv_tableIn (tgt := 860) hx hb dL_law_32 (by decide) (by decide) rfl (by decide) ?_
        exact lc_24 K hi hl S kk
    · refine lv_tableOut (tgt := 883) hx hb dL_law_32 (sw_out (n := 24) (by decide) hout (by decide)) (by decide) ?_
      exact kk σ J T H locs S
theorem nl_0 : Cond.methodLinkNest RX3 151 yX10_bankOf "NumberFerries" ∈ lw_tbl := lt_at 652 (by decide +kernel)
theorem nl_1 : Cond.methodLinkNest RX3 155 yX10_allOn "NumberFerries" ∈ lw_tbl := lt_at 653 (by decide +kernel)
theorem nl_2 : Cond.methodLinkNest RX4 67 yX10_allOn "NumberFerries" ∈ lw_tbl := lt_at 820 (by decide +kernel)
theorem nl_3 : Cond.methodLinkNest RX4 101 yX10_bankOf "NumberFerries" ∈ lw_tbl := lt_at 825 (by decide +kernel)
theorem nl_4 : Cond.methodLinkNest RX4 104 yX10_crossingOf "NumberFerries" ∈ lw_tbl := lt_at 826 (by decide +kernel)
theorem nl_5 : Cond.methodLinkNest RX4 83 yX10_banksBehind "NumberFerries" ∈ lw_tbl := lt_at 827 (by decide +kernel)
theorem nm_0 : Cond.methodLinkNest RX10 11 yX7_init "NumberFerries" ∈ lw_tbl := lt_at 32 (by decide +kernel)
theorem nm_1 : Cond.methodLinkNest RX3 25 yX5_init "NumberFerries" ∈ lw_tbl := lt_at 58 (by decide +kernel)
theorem nm_2 : Cond.methodLinkNest RX3 50 yX8_init "NumberFerries" ∈ lw_tbl := lt_at 89 (by decide +kernel)
theorem nm_3 : Cond.methodLinkNest RX3 51 yX0_init "NumberFerries" ∈ lw_tbl := lt_at 124 (by decide +kernel)
theorem nm_4 : Cond.methodLinkNest RX2 32 yX1_init "NumberFerries" ∈ lw_tbl := lt_at 201 (by decide +kernel)
theorem nm_5 : Cond.methodLinkNest RX10 62 yX5_init "NumberFerries" ∈ lw_tbl := lt_at 326 (by decide +kernel)
theorem ao_Thing : Cond.arrayOver (.object RX8) ∈ lw_tbl := lt_at 53 (by decide +kernel)
theorem ao_Ferry : Cond.arrayOver (.object RX0) ∈ lw_tbl := lt_at 55 (by decide +kernel)
theorem ao_Stand : Cond.arrayOver (.object RX5) ∈ lw_tbl := lt_at 325 (by decide +kernel)
theorem ao_Line : Cond.arrayOver (.object RX1) ∈ lw_tbl := lt_at 199 (by decide +kernel)
theorem ka_p {s : State} {b : Nat} {ty : FieldType} (h : (Cond.arrayClass ty).before #[Value.ref b] s = true) : ∃ cA : ClassId, ArrOfT s cA ty ∧ s.vm.findClass ("[" ++ ty.toString) = some cA := by
  obtain ⟨cA, k, comp, h1, h2, h3⟩ := Cond.arrayClass_spec h
  exact ⟨cA, fun n z => ⟨fun k h => (by cases h), k, h2, comp, h3⟩, h1⟩
theorem ka_o {s : State} {b : Nat} {C : String} (h : (Cond.arrayOver (.object C)).before #[Value.ref b] s = true) : ∃ cA : ClassId, ArrOfT s cA (.object C) ∧ va_RA s cA (.object C) := by
  obtain ⟨comp, cA, k, h1, h2, h3, h4, h5⟩ := Cond.arrayOver_spec h
  exact ⟨cA, fun n z => ⟨fun k h => (by cases h), k, h3, comp, h4⟩, k, comp, h3, h4, h1, h5⟩
set_option maxHeartbeats 4000000 in
set_option maxRecDepth 100000 in
theorem whole_start {p : Program} {e : Env} {s : State} {m : MethodId} {below : List Frame} {meth : Method} {c : Code} (l : Launch) {b L : Nat} {xs : Nat → Int32} (hL : L ≤ 2560) (C0 : lw_At p s m meth c b L xs) : W p l e room_1 s m #[Value.ref b] below meth c s.heap [] 0 0 (lw_Z below #[Value.ref b] s) (entryFrame m ([Value.ref b] : List Value).toArray 4) := by
  obtain ⟨hx, hb, hr, hml, hown, hts0, hX, hbl, hlocks, hgv⟩ := id C0
  have hts : ∀ w ∈ tg, w.before #[Value.ref b] s = true := fun w h => hts0 w (tg_sub h)
  have hA : ∀ q : Nat, s.heap.size ≤ q → LA s q := fun _ h => h
  have hbA : ¬ LA s b := Nat.not_le.mpr hbl
  obtain ⟨aw, aS, aV, aT, hC⟩ := kC_0 hts0 hgv
  obtain ⟨c0, iS0, hKn0⟩ := u_known (C := RX0) (T := TX0) (N := 5) (n := 5) hts ni0 (hts _ inst0)
  obtain ⟨c1, iS1, hKn1⟩ := u_known (C := RX1) (T := TX1) (N := 2) (n := 2) hts ni1 (hts _ inst1)
  obtain ⟨c2, iS2, hKn2⟩ := u_known (C := RX2) (T := TX2) (N := 11) (n := 11) hts ni2 (hts _ inst2)
  obtain ⟨c3, iS3, hKn3⟩ := u_known (C := RX3) (T := TX3) (N := 9) (n := 9) hts ni3 (hts _ inst3)
  obtain ⟨c4, iS4, hKn4⟩ := u_known (C := RX4) (T := TX4) (N := 8) (n := 8) hts ni4 (hts _ inst4)
  obtain ⟨c5, iS5, hKn5⟩ := u_known (C := RX5) (T := TX5) (N := 5) (n := 5) hts ni5 (hts _ inst5)
  obtain ⟨c6, iS6, hKn6⟩ := u_known (C := RX6) (T := TX6) (N := 8) (n := 8) hts ni6 (hts _ inst6)
  obtain ⟨c7, iS7, hKn7⟩ := u_known (C := RX7) (T := TX7) (N := 2) (n := 2) hts ni7 (hts _ inst7)
  obtain ⟨c8, iS8, hKn8⟩ := u_known (C := RX8) (T := TX8) (N := 6) (n := 6) hts ni8 (hts _ inst8)
  obtain ⟨c9, iS9, hKn9⟩ := u_known (C := RX10) (T := TX10) (N := 8) (n := 8) hts ni10 (hts _ inst10)
  obtain ⟨c10, iS10, hKn10⟩ := u_known (C := RX11) (T := TX11) (N := 31) (n := 31) hts ni11 (hts _ inst11)
  obtain ⟨D, hKc⟩ : ∃ D : va_G, ∀ (k : Nat) (q : vw_C), vwCl[k]? = some q → u_Kn s q.1 q.2.1 q.2.2 (D.1 k) (D.2 k) := by
    refine ⟨(fun k => if k = 0 then c0 else if k = 1 then c1 else if k = 2 then c2 else if k = 3 then c3 else if k = 4 then c4 else if k = 5 then c5 else if k = 6 then c6 else if k = 7 then c7 else if k = 8 then c8 else if k = 9 then c9 else c10, fun k => if k = 0 then iS0 else if k = 1 then iS1 else if k = 2 then iS2 else if k = 3 then iS3 else if k = 4 then iS4 else if k = 5 then iS5 else if k = 6 then iS6 else if k = 7 then iS7 else if k = 8 then iS8 else if k = 9 then iS9 else iS10), ?_⟩
    intro k q hq
    match k, hq with
    | 0, hq => cases hq; exact hKn0
    | 1, hq => cases hq; exact hKn1
    | 2, hq => cases hq; exact hKn2
    | 3, hq => cases hq; exact hKn3
    | 4, hq => cases hq; exact hKn4
    | 5, hq => cases hq; exact hKn5
    | 6, hq => cases hq; exact hKn6
    | 7, hq => cases hq; exact hKn7
    | 8, hq => cases hq; exact hKn8
    | 9, hq => cases hq; exact hKn9
    | 10, hq => cases hq; exact hKn10
    | k + 11, hq => simp [vwCl] at hq
  obtain ⟨y0, f0, g0⟩ := ka_p (hts _ arI)
  obtain ⟨y1, f1, g1⟩ := ka_p (hts _ arZ)
  obtain ⟨y2, f2, g2⟩ := ka_o (hts0 _ ao_Ferry)
  obtain ⟨y3, f3, g3⟩ := ka_o (hts0 _ ao_Line)
  obtain ⟨y4, f4, g4⟩ := ka_o (hts0 _ ao_Stand)
  obtain ⟨y5, f5, g5⟩ := ka_o (hts0 _ ao_Thing)
  obtain ⟨cy, z0, z1, z2, z3, z4, z5⟩ : ∃ cy : Nat → ClassId, cy 0 = y0 ∧ cy 1 = y1 ∧ cy 2 = y2 ∧ cy 3 = y3 ∧ cy 4 = y4 ∧ cy 5 = y5 := ⟨fun k => if k = 0 then y0 else if k = 1 then y1 else if k = 2 then y2 else if k = 3 then y3 else if k = 4 then y4 else y5, rfl, rfl, rfl, rfl, rfl, rfl⟩
  subst z0 z1 z2 z3 z4 z5
  have hK : va_K D vwCl (tyL cy) s := by
    refine ⟨hKc, fun k q hq => ?_⟩
    match k, hq with
    | 0, hq => cases hq; exact ⟨f0, g0⟩
    | 1, hq => cases hq; exact ⟨f1, g1⟩
    | 2, hq => cases hq; exact ⟨f2, g2⟩
    | 3, hq => cases hq; exact ⟨f3, g3⟩
    | 4, hq => cases hq; exact ⟨f4, g4⟩
    | 5, hq => cases hq; exact ⟨f5, g5⟩
    | k + 6, hq => simp [tyL] at hq
  have hN : kN s := by
    intro w hw
    simp only [kNl, List.mem_cons, List.not_mem_nil, or_false] at hw
    rcases hw with rfl | rfl | rfl | rfl | rfl | rfl
    · exact va_Nw.of rfl (hts0 _ nl_0)
    · exact va_Nw.of rfl (hts0 _ nl_1)
    · exact va_Nw.of rfl (hts0 _ nl_2)
    · exact va_Nw.of rfl (hts0 _ nl_3)
    · exact va_Nw.of rfl (hts0 _ nl_4)
    · exact va_Nw.of rfl (hts0 _ nl_5)
  have hN2 : kN2 s := by
    refine ⟨fun w hw => ?_, va_AO.of (hts0 _ ao_Thing), va_AO.of (hts0 _ ao_Ferry), va_AO.of (hts0 _ ao_Stand), va_AO.of (hts0 _ ao_Line)⟩
    simp only [kN2l, List.mem_cons, List.not_mem_nil, or_false] at hw
    rcases hw with rfl | rfl | rfl | rfl | rfl | rfl
    · exact va_Nw.of rfl (hts0 _ nm_0)
    · exact va_Nw.of rfl (hts0 _ nm_1)
    · exact va_Nw.of rfl (hts0 _ nm_2)
    · exact va_Nw.of rfl (hts0 _ nm_3)
    · exact va_Nw.of rfl (hts0 _ nm_4)
    · exact va_Nw.of rfl (hts0 _ nm_5)
  have hS : va_S (LA s) s.heap s.heap [] := va_S.rf
  have hP : va_P D vwCl [] s.heap := fun k q h => by simp at h
  have hD : va_D (LA s) [] := ⟨fun i j p q h => by simp at h, fun k q h => by simp at h⟩
  have hl := lv_entry ([.ref b]) (n := 4) (Nat.le_of_ble_eq_true rfl)
  rw [lg_entry_eq]
  generalize (lg_sl ([.ref b]) ++ List.replicate (4 - (lg_sl ([.ref b])).length) Slot.unset).toArray = ls at hl ⊢
  have hl : lv_has ls 4 [(0, .ref b)] := hl
  refine va_new (ci := 9) (fs := [.null, .null, .null, .null, .null, .null, .null, .int (nI 0)]) (C := RX10) (T := TX10) (N := 8) hx hb hts ni10 tyX10 tyX10_ok hown (hts _ clL_7) (hts _ inst10) (hts _ iniX10) hK hP hD hS hA rfl (fun j hj => by rcases (show j = 0 ∨ j = 1 ∨ j = 2 ∨ j = 3 ∨ j = 4 ∨ j = 5 ∨ j = 6 ∨ j = 7 by omega) with rfl | rfl | rfl | rfl | rfl | rfl | rfl | rfl <;> rfl) (Nat.le_of_ble_eq_true rfl) (Nat.le_of_ble_eq_true rfl) dL_law_0 (fun q0 H hP hD hS => ?_)
  have hP : va_P D vwCl [(q0, .inr (9, [.null, .null, .null, .null, .null, .null, .null, .int (nI 0)]))] H := hP
  have hD : va_D (LA s) [(q0, .inr (9, [.null, .null, .null, .null, .null, .null, .null, .int (nI 0)]))] := hD
  refine W.widen (k := 1) (n := 8) (Nat.le_of_ble_eq_true rfl) (Nat.le_of_ble_eq_true rfl) ?_
  refine lv_dup hx hb dL_law_3 rfl ?_
  refine ci_p (n := 0) (As := []) (rest := [.ref q0]) (wr := []) ⟨hx, hb, hml, hown, hts⟩ (k_X10_init l D cy aw aS aV aT q0) (hts _ mlL_9) (hts _ imX10_init) (hts _ iniX10) (gc_of cdX10_init) rfl (by decide +kernel) ⟨Nat.le_of_ble_eq_true rfl, Nat.le_of_ble_eq_true rfl⟩ hK hN2 hP hD hS hA hC [0] [] rfl rfl (by decide) (by decide) (by decide) rfl hl.1 rfl (Nat.le_of_ble_eq_true rfl) dL_law_4 ⟨Nat.le_of_ble_eq_true rfl, Nat.le_of_ble_eq_true rfl⟩ (fun ac H locs hac hPn hDn hSn => ?_)
  have hac : ac 0 = q0 := hac
  subst hac
  have hP : va_P D vwCl (cw cy ac aw sg0 js0) H := hPn
  have hD : va_D (LA s) (cw cy ac aw sg0 js0) := hDn
  have hS := hSn
  refine W.widen (k := 58) (n := 11706) (Nat.le_of_ble_eq_true rfl) (Nat.le_of_ble_eq_true rfl) ?_
  refine lv_astore_n (lv' := [(1, .ref (ac 0)), (0, .ref b)]) hx hb dL_law_7 rfl hl (by decide) rfl (fun ls hl => ?_)
  refine va_new (ci := 10) (fs := [.int (nI 0), .null, .int (nI 0), .null, .int (nI 0), .null, .int (nI 0), .int (nI 0), .long 0, .int (nI 0), .int (nI 0), .int (nI 0), .int (nI 0), .int (nI 0), .int (nI 0), .null, .null, .int (nI 0), .int (nI 0), .int (nI 0), .int (nI 0), .int (nI 0), .null, .null, .int (nI 0), .null, .null, .null, .null, .null, .int (nI 0)]) (C := RX11) (T := TX11) (N := 31) hx hb hts ni11 tyX11 tyX11_ok hown (hts _ clL_10) (hts _ inst11) (hts _ iniX11) hK hP hD hS hA rfl (fun j hj => by rcases (show j = 0 ∨ j = 1 ∨ j = 2 ∨ j = 3 ∨ j = 4 ∨ j = 5 ∨ j = 6 ∨ j = 7 ∨ j = 8 ∨ j = 9 ∨ j = 10 ∨ j = 11 ∨ j = 12 ∨ j = 13 ∨ j = 14 ∨ j = 15 ∨ j = 16 ∨ j = 17 ∨ j = 18 ∨ j = 19 ∨ j = 20 ∨ j = 21 ∨ j = 22 ∨ j = 23 ∨ j = 24 ∨ j = 25 ∨ j = 26 ∨ j = 27 ∨ j = 28 ∨ j = 29 ∨ j = 30 by omega) with rfl | rfl | rfl | rfl | rfl | rfl | rfl | rfl | rfl | rfl | rfl | rfl | rfl | rfl | rfl | rfl | rfl | rfl | rfl | rfl | rfl | rfl | rfl | rfl | rfl | rfl | rfl | rfl | rfl | rfl | rfl <;> rfl) (Nat.le_of_ble_eq_true rfl) (Nat.le_of_ble_eq_true rfl) dL_law_8 (fun q1 H hP hD hS => ?_)
  refine W.widen (k := 59) (n := 11737) (Nat.le_of_ble_eq_true rfl) (Nat.le_of_ble_eq_true rfl) ?_
  refine lv_dup hx hb dL_law_11 rfl ?_
  refine ci_p (n := 0) (As := []) (rest := [.ref q1]) (wr := cw cy ac aw sg0 js0) ⟨hx, hb, hml, hown, hts⟩ (k_X11_init l D cy aw aS aV aT q1) (hts _ mlL_12) (hts _ imX11_init) (hts _ iniX11) (gc_of cdX11_init) rfl (by decide +kernel) ⟨Nat.le_of_ble_eq_true rfl, Nat.le_of_ble_eq_true rfl⟩ hK hN2 hP hD hS hA hC [58] (List.range 58) rfl rfl (by decide) (by decide) (by decide) rfl hl.1 rfl (Nat.le_of_ble_eq_true rfl) dL_law_12 ⟨Nat.le_of_ble_eq_true rfl, Nat.le_of_ble_eq_true rfl⟩ (fun ad H locs had hPn hDn hSn => ?_)
  have had : ad 0 = q1 := had
  subst had
  have hP : va_P D vwCl (cw cy ac aw sg0 js0 ++ mw cy ad sg0 ms0) H := hPn
  have hD : va_D (LA s) (cw cy ac aw sg0 js0 ++ mw cy ad sg0 ms0) := hDn
  have hS := hSn
  have hDD : ∀ (σ : Sg) (J : Js) (σ' : Sg) (T : Ms), va_D (LA s) (cw cy ac aw σ J ++ mw cy ad σ' T) := fun σ J σ' T => va_D_map (by rw [List.map_append, List.map_append, cw_ad, cw_ad, mw_ad, mw_ad]) hD
  have hPc : va_P D vwCl (cw cy ac aw sg0 js0) H := fun k q hk => hP k q (by rw [List.getElem?_append_left (List.getElem?_eq_some_iff.mp hk).1]; exact hk)
  have hPm : va_P D vwCl (mw cy ad sg0 ms0) H := fun k q hk => hP _ q (at_right hk)
  refine W.widen (k := 71) (n := 20296) (Nat.le_of_ble_eq_true rfl) (Nat.le_of_ble_eq_true rfl) ?_
  refine lv_astore_n (lv' := [(2, .ref (ad 0)), (1, .ref (ac 0)), (0, .ref b)]) hx hb dL_law_15 rfl hl (by decide) rfl (fun ls hl => ?_)
  refine lv_iconst (v := nI 0) hx hb dL_law_16 (by decide) ?_
  refine lv_istore_n (lv' := [(3, .int (nI 0)), (2, .ref (ad 0)), (1, .ref (ac 0)), (0, .ref b)]) hx hb dL_law_17 rfl hl (by decide) rfl (fun ls hl => ?_)
  exact law_loop ⟨hx, hb, hml, hown, hts, hX, hbl, hL, hK, hN, hC, hDD⟩ hr hlocks 512 0 (by omega) (by omega) sg0 js0 ms0 H locs ls ⟨wf_0, wfJ_0, hPc, hPm, hS⟩ hl
