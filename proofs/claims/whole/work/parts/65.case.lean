set_option maxHeartbeats 4000000 in
set_option maxRecDepth 100000 in
theorem lc_0 {p : Program} {l : Launch} {e : Env} {s : State} {m : MethodId} {below : List Frame} {meth : Method} {c : Code} {b L : Nat} {xs : Nat → Int32} {D : va_G} {cy : Nat → ClassId} {ac ad aw aS aV aT : Nat → Nat} (K : LK p s m c b L xs D cy ac ad aw aS aV aT) {i : Nat} (hi : i + 5 ≤ L) {ls : Array Slot} (hl : lv_has ls 4 [(3, .int (nI i)), (2, .ref (ad 0)), (1, .ref (ac 0)), (0, .ref b)]) {σ : Sg} {J : Js} {T : Ms} {H : Heap} {locs : List Loc} (S : LSt s D cy ac ad aw σ J T H locs) (kk : ∀ (σ : Sg) (J : Js) (T : Ms) (H : Heap) (locs : List Loc), LSt s D cy ac ad aw σ J T H locs → LWw p l e s m below meth c b H locs (F0 m 883 ls [])) : LWw p l e s m below meth c b H locs (F0 m 148 ls []) := by
  obtain ⟨hx, hb, hml, hown, hts, hX, hbl, hL, hK, hN, hC, hDD⟩ := K
  obtain ⟨hw, hj, hPc, hPm, hS⟩ := S
  have hA : ∀ q : Nat, s.heap.size ≤ q → LA s q := fun _ h => h
  have hbA : ¬ LA s b := Nat.not_le.mpr hbl
  refine lv_aload_n hx hb dL_law_148 rfl (lv_at hl 2 rfl) ?_
  refine lv_aload_n hx hb dL_law_149 rfl (lv_at hl 3 rfl) ?_
  refine lv_iload_n hx hb dL_law_150 rfl (lv_at hl 0 rfl) ?_
  refine lv_iconst (v := nI 1) hx hb dL_law_151 (by decide) ?_
  refine ln_iadd hx hb dL_law_152 ?_
  refine ln_sld hx hb hX hbl hbA hS (i := i + 1) (by omega) (by omega) dL_law_153 ?_
  refine lv_i2l (v := (xs (i + 1)).toInt64) hx hb dL_law_154 rfl ?_
  refine lv_bipush (v := nI 32) hx hb dL_law_155 (by decide) ?_
  refine lv_lshl (v := (xs (i + 1)).toInt64 <<< ((nI 32).toInt64 &&& 63)) hx hb dL_law_157 rfl ?_
  refine lv_aload_n hx hb dL_law_158 rfl (lv_at hl 3 rfl) ?_
  refine lv_iload_n hx hb dL_law_159 rfl (lv_at hl 0 rfl) ?_
  refine lv_iconst (v := nI 2) hx hb dL_law_160 (by decide) ?_
  refine ln_iadd hx hb dL_law_161 ?_
  refine ln_sld hx hb hX hbl hbA hS (i := i + 2) (by omega) (by omega) dL_law_162 ?_
  refine lv_i2l (v := (xs (i + 2)).toInt64) hx hb dL_law_163 rfl ?_
  refine lv_ldc2 (v := 4294967295) hx hb hown (hts _ cnL_13) dL_law_164 ?_
  refine lv_land hx hb dL_law_167 ?_
  refine lv_lor hx hb dL_law_168 ?_
  refine lv_aload_n hx hb dL_law_169 rfl (lv_at hl 3 rfl) ?_
  refine lv_iload_n hx hb dL_law_170 rfl (lv_at hl 0 rfl) ?_
  refine lv_iconst (v := nI 3) hx hb dL_law_171 (by decide) ?_
  refine ln_iadd hx hb dL_law_172 ?_
  refine ln_sld hx hb hX hbl hbA hS (i := i + 3) (by omega) (by omega) dL_law_173 ?_
  refine cr_w2 (n := 2) (As := [.long ((((xs (i + 1)).toInt64 <<< ((nI 32).toInt64 &&& 63)) ||| ((((xs (i + 2)).toInt64) &&& (4294967295))))), .int (xs (i + 3))]) (rest := []) ⟨hx, hb, hml, hown, hts⟩ (k_X10_write l D cy ac aw σ J ((((xs (i + 1)).toInt64 <<< ((nI 32).toInt64 &&& 63)) ||| ((((xs (i + 2)).toInt64) &&& (4294967295))))) (xs (i + 3)) hw hj) gvL_15 (by decide +kernel) ⟨Nat.le_of_ble_eq_true rfl, Nat.le_of_ble_eq_true rfl⟩ hK hN hPc (D_left (hDD σ J σ T)) hS hA hPm (D_dis (hDD σ J σ T)) 0 (cw_c0 cy ac aw σ J) rfl rfl hl.1 rfl (Nat.le_of_ble_eq_true rfl) dL_law_174 ⟨Nat.le_of_ble_eq_true rfl, Nat.le_of_ble_eq_true rfl⟩ (fun r1 J1 H locs hp1 hPc hPm hS => ?_)
  refine lv_aload_n hx hb dL_law_177 rfl (lv_at hl 1 rfl) ?_
  refine lv_aload_n hx hb dL_law_178 rfl (lv_at hl 3 rfl) ?_
  refine lv_iload_n hx hb dL_law_179 rfl (lv_at hl 0 rfl) ?_
  refine lv_iconst (v := nI 1) hx hb dL_law_180 (by decide) ?_
  refine ln_iadd hx hb dL_law_181 ?_
  refine ln_sld hx hb hX hbl hbA hS (i := i + 1) (by omega) (by omega) dL_law_182 ?_
  refine lv_i2l (v := (xs (i + 1)).toInt64) hx hb dL_law_183 rfl ?_
  refine lv_bipush (v := nI 32) hx hb dL_law_184 (by decide) ?_
  refine lv_lshl (v := (xs (i + 1)).toInt64 <<< ((nI 32).toInt64 &&& 63)) hx hb dL_law_186 rfl ?_
  refine lv_aload_n hx hb dL_law_187 rfl (lv_at hl 3 rfl) ?_
  refine lv_iload_n hx hb dL_law_188 rfl (lv_at hl 0 rfl) ?_
  refine lv_iconst (v := nI 2) hx hb dL_law_189 (by decide) ?_
  refine ln_iadd hx hb dL_law_190 ?_
  refine ln_sld hx hb hX hbl hbA hS (i := i + 2) (by omega) (by omega) dL_law_191 ?_
  refine lv_i2l (v := (xs (i + 2)).toInt64) hx hb dL_law_192 rfl ?_
  refine lv_ldc2 (v := 4294967295) hx hb hown (hts _ cnL_13) dL_law_193 ?_
  refine lv_land hx hb dL_law_196 ?_
  refine lv_lor hx hb dL_law_197 ?_
  refine lv_aload_n hx hb dL_law_198 rfl (lv_at hl 3 rfl) ?_
  refine lv_iload_n hx hb dL_law_199 rfl (lv_at hl 0 rfl) ?_
  refine lv_iconst (v := nI 3) hx hb dL_law_200 (by decide) ?_
  refine ln_iadd hx hb dL_law_201 ?_
  refine ln_sld hx hb hX hbl hbA hS (i := i + 3) (by omega) (by omega) dL_law_202 ?_
  refine cr_w2 (n := 2) (As := [.long ((((xs (i + 1)).toInt64 <<< ((nI 32).toInt64 &&& 63)) ||| ((((xs (i + 2)).toInt64) &&& (4294967295))))), .int (xs (i + 3))]) (rest := [.int (r1)]) ⟨hx, hb, hml, hown, hts⟩ (k_X11_write l D cy ad σ T ((((xs (i + 1)).toInt64 <<< ((nI 32).toInt64 &&& 63)) ||| ((((xs (i + 2)).toInt64) &&& (4294967295))))) (xs (i + 3)) hw) gvL_19 (by decide +kernel) ⟨Nat.le_of_ble_eq_true rfl, Nat.le_of_ble_eq_true rfl⟩ hK hN hPm (D_right (hDD (n_write σ ((((xs (i + 1)).toInt64 <<< ((nI 32).toInt64 &&& 63)) ||| ((((xs (i + 2)).toInt64) &&& (4294967295))))) (xs (i + 3))) J1 σ T)) hS hA hPc (fun i1 j1 p1 q1 h1 h2 => (D_dis (hDD (n_write σ ((((xs (i + 1)).toInt64 <<< ((nI 32).toInt64 &&& 63)) ||| ((((xs (i + 2)).toInt64) &&& (4294967295))))) (xs (i + 3))) J1 σ T) j1 i1 q1 p1 h2 h1).symm) 0 (mw_c0 cy ad σ T) rfl rfl hl.1 rfl (Nat.le_of_ble_eq_true rfl) dL_law_203 ⟨Nat.le_of_ble_eq_true rfl, Nat.le_of_ble_eq_true rfl⟩ (fun r2 T1 H locs hp2 hPm hPc hS => ?_)
  refine lv_icmp_eq (tgt := 883) hx hb dL_law_206 (by decide) (fun _ => ?_) (fun h => absurd (hp1.1.trans (Eq.symm hp2)) h)
  exact kk (n_write σ ((((xs (i + 1)).toInt64 <<< ((nI 32).toInt64 &&& 63)) ||| ((((xs (i + 2)).toInt64) &&& (4294967295))))) (xs (i + 3))) J1 T1 H locs ⟨wn_write hw _ _, hp1.2, hPc, hPm, hS⟩
set_option maxHeartbeats 4000000 in
set_option maxRecDepth 100000 in
theorem lc_1 {p : Program} {l : Launch} {e : Env} {s : State} {m : MethodId} {below : List Frame} {meth : Method} {c : Code} {b L : Nat} {xs : Nat → Int32} {D : va_G} {cy : Nat → ClassId} {ac ad aw aS aV aT : Nat → Nat} (K : LK p s m c b L xs D cy ac ad aw aS aV aT) {i : Nat} (hi : i + 5 ≤ L) {ls : Array Slot} (hl : lv_has ls 4 [(3, .int (nI i)), (2, .ref (ad 0)), (1, .ref (ac 0)), (0, .ref b)]) {σ : Sg} {J : Js} {T : Ms} {H : Heap} {locs : List Loc} (S : LSt s D cy ac ad aw σ J T H locs) (kk : ∀ (σ : Sg) (J : Js) (T : Ms) (H : Heap) (locs : List Loc), LSt s D cy ac ad aw σ J T H locs → LWw p l e s m below meth c b H locs (F0 m 883 ls [])) : LWw p l e s m below meth c b H locs (F0 m 211 ls []) := by
  obtain ⟨hx, hb, hml, hown, hts, hX, hbl, hL, hK, hN, hC, hDD⟩ := K
  obtain ⟨hw, hj, hPc, hPm, hS⟩ := S
  have hA : ∀ q : Nat, s.heap.size ≤ q → LA s q := fun _ h => h
  have hbA : ¬ LA s b := Nat.not_le.mpr hbl
  refine lv_aload_n hx hb dL_law_211 rfl (lv_at hl 2 rfl) ?_
  refine cr_w2 (n := 0) (As := []) (rest := []) ⟨hx, hb, hml, hown, hts⟩ (k_X10_erase l D cy ac aw σ J  hj) gvL_20 (by decide +kernel) ⟨Nat.le_of_ble_eq_true rfl, Nat.le_of_ble_eq_true rfl⟩ hK hN hPc (D_left (hDD σ J σ T)) hS hA hPm (D_dis (hDD σ J σ T)) 0 (cw_c0 cy ac aw σ J) rfl rfl hl.1 rfl (Nat.le_of_ble_eq_true rfl) dL_law_212 ⟨Nat.le_of_ble_eq_true rfl, Nat.le_of_ble_eq_true rfl⟩ (fun r1 J1 H locs hp1 hPc hPm hS => ?_)
  refine lv_aload_n hx hb dL_law_215 rfl (lv_at hl 1 rfl) ?_
  refine cr_w2 (n := 0) (As := []) (rest := [.int (r1)]) ⟨hx, hb, hml, hown, hts⟩ (k_X11_erase l D cy ad σ T  ) gvL_24 (by decide +kernel) ⟨Nat.le_of_ble_eq_true rfl, Nat.le_of_ble_eq_true rfl⟩ hK hN hPm (D_right (hDD (n_erase σ) J1 σ T)) hS hA hPc (fun i1 j1 p1 q1 h1 h2 => (D_dis (hDD (n_erase σ) J1 σ T) j1 i1 q1 p1 h2 h1).symm) 0 (mw_c0 cy ad σ T) rfl rfl hl.1 rfl (Nat.le_of_ble_eq_true rfl) dL_law_216 ⟨Nat.le_of_ble_eq_true rfl, Nat.le_of_ble_eq_true rfl⟩ (fun r2 T1 H locs hp2 hPm hPc hS => ?_)
  refine lv_icmp_eq (tgt := 883) hx hb dL_law_219 (by decide) (fun _ => ?_) (fun h => absurd (hp1.1.trans (Eq.symm hp2)) h)
  exact kk (n_erase σ) J1 T1 H locs ⟨wn_erase hw, hp1.2, hPc, hPm, hS⟩
set_option maxHeartbeats 4000000 in
set_option maxRecDepth 100000 in
theorem lc_2 {p : Program} {l : Launch} {e : Env} {s : State} {m : MethodId} {below : List Frame} {meth : Method} {c : Code} {b L : Nat} {xs : Nat → Int32} {D : va_G} {cy : Nat → ClassId} {ac ad aw aS aV aT : Nat → Nat} (K : LK p s m c b L xs D cy ac ad aw aS aV aT) {i : Nat} (hi : i + 5 ≤ L) {ls : Array Slot} (hl : lv_has ls 4 [(3, .int (nI i)), (2, .ref (ad 0)), (1, .ref (ac 0)), (0, .ref b)]) {σ : Sg} {J : Js} {T : Ms} {H : Heap} {locs : List Loc} (S : LSt s D cy ac ad aw σ J T H locs) (kk : ∀ (σ : Sg) (J : Js) (T : Ms) (H : Heap) (locs : List Loc), LSt s D cy ac ad aw σ J T H locs → LWw p l e s m below meth c b H locs (F0 m 883 ls [])) : LWw p l e s m below meth c b H locs (F0 m 224 ls []) := by
  obtain ⟨hx, hb, hml, hown, hts, hX, hbl, hL, hK, hN, hC, hDD⟩ := K
  obtain ⟨hw, hj, hPc, hPm, hS⟩ := S
  have hA : ∀ q : Nat, s.heap.size ≤ q → LA s q := fun _ h => h
  have hbA : ¬ LA s b := Nat.not_le.mpr hbl
  refine lv_aload_n hx hb dL_law_224 rfl (lv_at hl 2 rfl) ?_
  refine kw_w2 (n := 0) (As := []) (rest := []) ⟨hx, hb, hml, hown, hts⟩ (k_X10_fault l D cy ac aw aS aV aT σ J  hw hj) gvL_25 (by decide +kernel) ⟨Nat.le_of_ble_eq_true rfl, Nat.le_of_ble_eq_true rfl⟩ hK hN hPc (D_left (hDD σ J σ T)) hS hA hC hPm (D_dis (hDD σ J σ T)) 0 (cw_c0 cy ac aw σ J) rfl rfl hl.1 rfl (Nat.le_of_ble_eq_true rfl) dL_law_225 ⟨Nat.le_of_ble_eq_true rfl, Nat.le_of_ble_eq_true rfl⟩ (fun r1 J1 H locs hp1 hPc hPm hS => ?_)
  refine lv_aload_n hx hb dL_law_228 rfl (lv_at hl 1 rfl) ?_
  refine cr_w2 (n := 0) (As := []) (rest := [.int (r1)]) ⟨hx, hb, hml, hown, hts⟩ (k_X11_fault l D cy ad σ T  hw) gvL_28 (by decide +kernel) ⟨Nat.le_of_ble_eq_true rfl, Nat.le_of_ble_eq_true rfl⟩ hK hN hPm (D_right (hDD σ J1 σ T)) hS hA hPc (fun i1 j1 p1 q1 h1 h2 => (D_dis (hDD σ J1 σ T) j1 i1 q1 p1 h2 h1).symm) 0 (mw_c0 cy ad σ T) rfl rfl hl.1 rfl (Nat.le_of_ble_eq_true rfl) dL_law_229 ⟨Nat.le_of_ble_eq_true rfl, Nat.le_of_ble_eq_true rfl⟩ (fun r2 T1 H locs hp2 hPm hPc hS => ?_)
  refine lv_icmp_eq (tgt := 883) hx hb dL_law_232 (by decide) (fun _ => ?_) (fun h => absurd (hp1.1.trans (Eq.symm hp2)) h)
  exact kk σ J1 T1 H locs ⟨hw, hp1.2, hPc, hPm, hS⟩
set_option maxHeartbeats 4000000 in
set_option maxRecDepth 100000 in
theorem lc_3 {p : Program} {l : Launch} {e : Env} {s : State} {m : MethodId} {below : List Frame} {meth : Method} {c : Code} {b L : Nat} {xs : Nat → Int32} {D : va_G} {cy : Nat → ClassId} {ac ad aw aS aV aT : Nat → Nat} (K : LK p s m c b L xs D cy ac ad aw aS aV aT) {i : Nat} (hi : i + 5 ≤ L) {ls : Array Slot} (hl : lv_has ls 4 [(3, .int (nI i)), (2, .ref (ad 0)), (1, .ref (ac 0)), (0, .ref b)]) {σ : Sg} {J : Js} {T : Ms} {H : Heap} {locs : List Loc} (S : LSt s D cy ac ad aw σ J T H locs) (kk : ∀ (σ : Sg) (J : Js) (T : Ms) (H : Heap) (locs : List Loc), LSt s D cy ac ad aw σ J T H locs → LWw p l e s m below meth c b H locs (F0 m 883 ls [])) : LWw p l e s m below meth c b H locs (F0 m 237 ls []) := by
  obtain ⟨hx, hb, hml, hown, hts, hX, hbl, hL, hK, hN, hC, hDD⟩ := K
  obtain ⟨hw, hj, hPc, hPm, hS⟩ := S
  have hA : ∀ q : Nat, s.heap.size ≤ q → LA s q := fun _ h => h
  have hbA : ¬ LA s b := Nat.not_le.mpr hbl
  refine lv_aload_n hx hb dL_law_237 rfl (lv_at hl 2 rfl) ?_
  refine kw_w2 (n := 0) (As := []) (rest := []) ⟨hx, hb, hml, hown, hts⟩ (k_X10_shore l D cy ac aw aS aV aT σ J  hw hj) gvL_29 (by decide +kernel) ⟨Nat.le_of_ble_eq_true rfl, Nat.le_of_ble_eq_true rfl⟩ hK hN hPc (D_left (hDD σ J σ T)) hS hA hC hPm (D_dis (hDD σ J σ T)) 0 (cw_c0 cy ac aw σ J) rfl rfl hl.1 rfl (Nat.le_of_ble_eq_true rfl) dL_law_238 ⟨Nat.le_of_ble_eq_true rfl, Nat.le_of_ble_eq_true rfl⟩ (fun r1 J1 H locs hp1 hPc hPm hS => ?_)
  refine lv_aload_n hx hb dL_law_241 rfl (lv_at hl 1 rfl) ?_
  refine cr_w2 (n := 0) (As := []) (rest := [.int (r1)]) ⟨hx, hb, hml, hown, hts⟩ (k_X11_shore l D cy ad σ T  hw) gvL_32 (by decide +kernel) ⟨Nat.le_of_ble_eq_true rfl, Nat.le_of_ble_eq_true rfl⟩ hK hN hPm (D_right (hDD (n_shore σ) J1 σ T)) hS hA hPc (fun i1 j1 p1 q1 h1 h2 => (D_dis (hDD (n_shore σ) J1 σ T) j1 i1 q1 p1 h2 h1).symm) 0 (mw_c0 cy ad σ T) rfl rfl hl.1 rfl (Nat.le_of_ble_eq_true rfl) dL_law_242 ⟨Nat.le_of_ble_eq_true rfl, Nat.le_of_ble_eq_true rfl⟩ (fun r2 T1 H locs hp2 hPm hPc hS => ?_)
  refine lv_icmp_eq (tgt := 883) hx hb dL_law_245 (by decide) (fun _ => ?_) (fun h => absurd (hp1.1.trans (Eq.symm hp2)) h)
  exact kk (n_shore σ) J1 T1 H locs ⟨wn_shore hw, hp1.2, hPc, hPm, hS⟩
set_option maxHeartbeats 4000000 in
set_option maxRecDepth 100000 in
theorem lc_4 {p : Program} {l : Launch} {e : Env} {s : State} {m : MethodId} {below : List Frame} {meth : Method} {c : Code} {b L : Nat} {xs : Nat → Int32} {D : va_G} {cy : Nat → ClassId} {ac ad aw aS aV aT : Nat → Nat} (K : LK p s m c b L xs D cy ac ad aw aS aV aT) {i : Nat} (hi : i + 5 ≤ L) {ls : Array Slot} (hl : lv_has ls 4 [(3, .int (nI i)), (2, .ref (ad 0)), (1, .ref (ac 0)), (0, .ref b)]) {σ : Sg} {J : Js} {T : Ms} {H : Heap} {locs : List Loc} (S : LSt s D cy ac ad aw σ J T H locs) (kk : ∀ (σ : Sg) (J : Js) (T : Ms) (H : Heap) (locs : List Loc), LSt s D cy ac ad aw σ J T H locs → LWw p l e s m below meth c b H locs (F0 m 883 ls [])) : LWw p l e s m below meth c b H locs (F0 m 250 ls []) := by
  obtain ⟨hx, hb, hml, hown, hts, hX, hbl, hL, hK, hN, hC, hDD⟩ := K
  obtain ⟨hw, hj, hPc, hPm, hS⟩ := S
  have hA : ∀ q : Nat, s.heap.size ≤ q → LA s q := fun _ h => h
  have hbA : ¬ LA s b := Nat.not_le.mpr hbl
  refine lv_aload_n hx hb dL_law_250 rfl (lv_at hl 2 rfl) ?_
  refine lv_aload_n hx hb dL_law_251 rfl (lv_at hl 3 rfl) ?_
  refine lv_iload_n hx hb dL_law_252 rfl (lv_at hl 0 rfl) ?_
  refine lv_iconst (v := nI 1) hx hb dL_law_253 (by decide) ?_
  refine ln_iadd hx hb dL_law_254 ?_
  refine ln_sld hx hb hX hbl hbA hS (i := i + 1) (by omega) (by omega) dL_law_255 ?_
  refine lv_aload_n hx hb dL_law_256 rfl (lv_at hl 3 rfl) ?_
  refine lv_iload_n hx hb dL_law_257 rfl (lv_at hl 0 rfl) ?_
  refine lv_iconst (v := nI 2) hx hb dL_law_258 (by decide) ?_
  refine ln_iadd hx hb dL_law_259 ?_
  refine ln_sld hx hb hX hbl hbA hS (i := i + 2) (by omega) (by omega) dL_law_260 ?_
  refine cr_v (n := 2) (As := [.int (xs (i + 1)), .int (xs (i + 2))]) (rest := []) ⟨hx, hb, hml, hown, hts⟩ (k_X10_thing l D cy ac aw σ J (xs (i + 1)) (xs (i + 2)) hw hj) gvL_33 (by decide +kernel) ⟨Nat.le_of_ble_eq_true rfl, Nat.le_of_ble_eq_true rfl⟩ hK hN hPc 0 (cw_c0 cy ac aw σ J) rfl rfl hl.1 rfl (Nat.le_of_ble_eq_true rfl) dL_law_261 ⟨Nat.le_of_ble_eq_true rfl, Nat.le_of_ble_eq_true rfl⟩ ?_
  refine lv_aload_n hx hb dL_law_264 rfl (lv_at hl 1 rfl) ?_
  refine lv_aload_n hx hb dL_law_265 rfl (lv_at hl 3 rfl) ?_
  refine lv_iload_n hx hb dL_law_266 rfl (lv_at hl 0 rfl) ?_
  refine lv_iconst (v := nI 1) hx hb dL_law_267 (by decide) ?_
  refine ln_iadd hx hb dL_law_268 ?_
  refine ln_sld hx hb hX hbl hbA hS (i := i + 1) (by omega) (by omega) dL_law_269 ?_
  refine lv_aload_n hx hb dL_law_270 rfl (lv_at hl 3 rfl) ?_
  refine lv_iload_n hx hb dL_law_271 rfl (lv_at hl 0 rfl) ?_
  refine lv_iconst (v := nI 2) hx hb dL_law_272 (by decide) ?_
  refine ln_iadd hx hb dL_law_273 ?_
  refine ln_sld hx hb hX hbl hbA hS (i := i + 2) (by omega) (by omega) dL_law_274 ?_
  refine cr_v (n := 2) (As := [.int (xs (i + 1)), .int (xs (i + 2))]) (rest := [.int (a_thing σ (xs (i + 1)) (xs (i + 2)))]) ⟨hx, hb, hml, hown, hts⟩ (k_X11_thing l D cy ad σ T (xs (i + 1)) (xs (i + 2)) hw) gvL_37 (by decide +kernel) ⟨Nat.le_of_ble_eq_true rfl, Nat.le_of_ble_eq_true rfl⟩ hK hN hPm 0 (mw_c0 cy ad σ T) rfl rfl hl.1 rfl (Nat.le_of_ble_eq_true rfl) dL_law_275 ⟨Nat.le_of_ble_eq_true rfl, Nat.le_of_ble_eq_true rfl⟩ ?_
  refine lv_icmp_eq (tgt := 883) hx hb dL_law_278 (by decide) (fun _ => ?_) (fun h => absurd rfl h)
  exact kk σ J T H locs ⟨hw, hj, hPc, hPm, hS⟩
set_option maxHeartbeats 4000000 in
set_option maxRecDepth 100000 in
theorem lc_5 {p : Program} {l : Launch} {e : Env} {s : State} {m : MethodId} {below : List Frame} {meth : Method} {c : Code} {b L : Nat} {xs : Nat → Int32} {D : va_G} {cy : Nat → ClassId} {ac ad aw aS aV aT : Nat → Nat} (K : LK p s m c b L xs D cy ac ad aw aS aV aT) {i : Nat} (hi : i + 5 ≤ L) {ls : Array Slot} (hl : lv_has ls 4 [(3, .int (nI i)), (2, .ref (ad 0)), (1, .ref (ac 0)), (0, .ref b)]) {σ : Sg} {J : Js} {T : Ms} {H : Heap} {locs : List Loc} (S : LSt s D cy ac ad aw σ J T H locs) (kk : ∀ (σ : Sg) (J : Js) (T : Ms) (H : Heap) (locs : List Loc), LSt s D cy ac ad aw σ J T H locs → LWw p l e s m below meth c b H locs (F0 m 883 ls [])) : LWw p l e s m below meth c b H locs (F0 m 283 ls []) := by
  obtain ⟨hx, hb, hml, hown, hts, hX, hbl, hL, hK, hN, hC, hDD⟩ := K
  obtain ⟨hw, hj, hPc, hPm, hS⟩ := S
  have hA : ∀ q : Nat, s.heap.size ≤ q → LA s q := fun _ h => h
  have hbA : ¬ LA s b := Nat.not_le.mpr hbl
  refine lv_aload_n hx hb dL_law_283 rfl (lv_at hl 2 rfl) ?_
  refine lv_aload_n hx hb dL_law_284 rfl (lv_at hl 3 rfl) ?_
  refine lv_iload_n hx hb dL_law_285 rfl (lv_at hl 0 rfl) ?_
  refine lv_iconst (v := nI 1) hx hb dL_law_286 (by decide) ?_
  refine ln_iadd hx hb dL_law_287 ?_
  refine ln_sld hx hb hX hbl hbA hS (i := i + 1) (by omega) (by omega) dL_law_288 ?_
  refine lv_aload_n hx hb dL_law_289 rfl (lv_at hl 3 rfl) ?_
  refine lv_iload_n hx hb dL_law_290 rfl (lv_at hl 0 rfl) ?_
  refine lv_iconst (v := nI 2) hx hb dL_law_291 (by decide) ?_
  refine ln_iadd hx hb dL_law_292 ?_
  refine ln_sld hx hb hX hbl hbA hS (i := i + 2) (by omega) (by omega) dL_law_293 ?_
  refine cr_v (n := 2) (As := [.int (xs (i + 1)), .int (xs (i + 2))]) (rest := []) ⟨hx, hb, hml, hown, hts⟩ (k_X10_ferry l D cy ac aw σ J (xs (i + 1)) (xs (i + 2)) hw hj) gvL_38 (by decide +kernel) ⟨Nat.le_of_ble_eq_true rfl, Nat.le_of_ble_eq_true rfl⟩ hK hN hPc 0 (cw_c0 cy ac aw σ J) rfl rfl hl.1 rfl (Nat.le_of_ble_eq_true rfl) dL_law_294 ⟨Nat.le_of_ble_eq_true rfl, Nat.le_of_ble_eq_true rfl⟩ ?_
  refine lv_aload_n hx hb dL_law_297 rfl (lv_at hl 1 rfl) ?_
  refine lv_aload_n hx hb dL_law_298 rfl (lv_at hl 3 rfl) ?_
  refine lv_iload_n hx hb dL_law_299 rfl (lv_at hl 0 rfl) ?_
  refine lv_iconst (v := nI 1) hx hb dL_law_300 (by decide) ?_
  refine ln_iadd hx hb dL_law_301 ?_
  refine ln_sld hx hb hX hbl hbA hS (i := i + 1) (by omega) (by omega) dL_law_302 ?_
  refine lv_aload_n hx hb dL_law_303 rfl (lv_at hl 3 rfl) ?_
  refine lv_iload_n hx hb dL_law_304 rfl (lv_at hl 0 rfl) ?_
  refine lv_iconst (v := nI 2) hx hb dL_law_305 (by decide) ?_
  refine ln_iadd hx hb dL_law_306 ?_
  refine ln_sld hx hb hX hbl hbA hS (i := i + 2) (by omega) (by omega) dL_law_307 ?_
  refine cr_v (n := 2) (As := [.int (xs (i + 1)), .int (xs (i + 2))]) (rest := [.int (a_ferry σ (xs (i + 1)) (xs (i + 2)))]) ⟨hx, hb, hml, hown, hts⟩ (k_X11_ferry l D cy ad σ T (xs (i + 1)) (xs (i + 2)) hw) gvL_41 (by decide +kernel) ⟨Nat.le_of_ble_eq_true rfl, Nat.le_of_ble_eq_true rfl⟩ hK hN hPm 0 (mw_c0 cy ad σ T) rfl rfl hl.1 rfl (Nat.le_of_ble_eq_true rfl) dL_law_308 ⟨Nat.le_of_ble_eq_true rfl, Nat.le_of_ble_eq_true rfl⟩ ?_
  refine lv_icmp_eq (tgt := 883) hx hb dL_law_311 (by decide) (fun _ => ?_) (fun h => absurd rfl h)
  exact kk σ J T H locs ⟨hw, hj, hPc, hPm, hS⟩
set_option maxHeartbeats 4000000 in
set_option maxRecDepth 100000 in
theorem lc_6 {p : Program} {l : Launch} {e : Env} {s : State} {m : MethodId} {below : List Frame} {meth : Method} {c : Code} {b L : Nat} {xs : Nat → Int32} {D : va_G} {cy : Nat → ClassId} {ac ad aw aS aV aT : Nat → Nat} (K : LK p s m c b L xs D cy ac ad aw aS aV aT) {i : Nat} (hi : i + 5 ≤ L) {ls : Array Slot} (hl : lv_has ls 4 [(3, .int (nI i)), (2, .ref (ad 0)), (1, .ref (ac 0)), (0, .ref b)]) {σ : Sg} {J : Js} {T : Ms} {H : Heap} {locs : List Loc} (S : LSt s D cy ac ad aw σ J T H locs) (kk : ∀ (σ : Sg) (J : Js) (T : Ms) (H : Heap) (locs : List Loc), LSt s D cy ac ad aw σ J T H locs → LWw p l e s m below meth c b H locs (F0 m 883 ls [])) : LWw p l e s m below meth c b H locs (F0 m 316 ls []) := by
  obtain ⟨hx, hb, hml, hown, hts, hX, hbl, hL, hK, hN, hC, hDD⟩ := K
  obtain ⟨hw, hj, hPc, hPm, hS⟩ := S
  have hA : ∀ q : Nat, s.heap.size ≤ q → LA s q := fun _ h => h
  have hbA : ¬ LA s b := Nat.not_le.mpr hbl
  refine lv_aload_n hx hb dL_law_316 rfl (lv_at hl 2 rfl) ?_
  refine lv_aload_n hx hb dL_law_317 rfl (lv_at hl 3 rfl) ?_
  refine lv_iload_n hx hb dL_law_318 rfl (lv_at hl 0 rfl) ?_
  refine lv_iconst (v := nI 1) hx hb dL_law_319 (by decide) ?_
  refine ln_iadd hx hb dL_law_320 ?_
  refine ln_sld hx hb hX hbl hbA hS (i := i + 1) (by omega) (by omega) dL_law_321 ?_
  refine lv_aload_n hx hb dL_law_322 rfl (lv_at hl 3 rfl) ?_
  refine lv_iload_n hx hb dL_law_323 rfl (lv_at hl 0 rfl) ?_
  refine lv_iconst (v := nI 2) hx hb dL_law_324 (by decide) ?_
  refine ln_iadd hx hb dL_law_325 ?_
  refine ln_sld hx hb hX hbl hbA hS (i := i + 2) (by omega) (by omega) dL_law_326 ?_
  refine kr_v (n := 2) (As := [.int (xs (i + 1)), .int (xs (i + 2))]) (rest := []) ⟨hx, hb, hml, hown, hts⟩ (k_X10_as l D cy ac aw aS aV aT σ J (xs (i + 1)) (xs (i + 2)) hw hj) gvL_42 (by decide +kernel) ⟨Nat.le_of_ble_eq_true rfl, Nat.le_of_ble_eq_true rfl⟩ hK hN hPc hC hS 0 (cw_c0 cy ac aw σ J) rfl rfl hl.1 rfl (Nat.le_of_ble_eq_true rfl) dL_law_327 ⟨Nat.le_of_ble_eq_true rfl, Nat.le_of_ble_eq_true rfl⟩ ?_
  refine lv_aload_n hx hb dL_law_330 rfl (lv_at hl 1 rfl) ?_
  refine lv_aload_n hx hb dL_law_331 rfl (lv_at hl 3 rfl) ?_
  refine lv_iload_n hx hb dL_law_332 rfl (lv_at hl 0 rfl) ?_
  refine lv_iconst (v := nI 1) hx hb dL_law_333 (by decide) ?_
  refine ln_iadd hx hb dL_law_334 ?_
  refine ln_sld hx hb hX hbl hbA hS (i := i + 1) (by omega) (by omega) dL_law_335 ?_
  refine lv_aload_n hx hb dL_law_336 rfl (lv_at hl 3 rfl) ?_
  refine lv_iload_n hx hb dL_law_337 rfl (lv_at hl 0 rfl) ?_
  refine lv_iconst (v := nI 2) hx hb dL_law_338 (by decide) ?_
  refine ln_iadd hx hb dL_law_339 ?_
  refine ln_sld hx hb hX hbl hbA hS (i := i + 2) (by omega) (by omega) dL_law_340 ?_
  refine cr_v (n := 2) (As := [.int (xs (i + 1)), .int (xs (i + 2))]) (rest := [.int (a_as σ (xs (i + 1)) (xs (i + 2)))]) ⟨hx, hb, hml, hown, hts⟩ (k_X11_as l D cy ad σ T (xs (i + 1)) (xs (i + 2)) hw) gvL_45 (by decide +kernel) ⟨Nat.le_of_ble_eq_true rfl, Nat.le_of_ble_eq_true rfl⟩ hK hN hPm 0 (mw_c0 cy ad σ T) rfl rfl hl.1 rfl (Nat.le_of_ble_eq_true rfl) dL_law_341 ⟨Nat.le_of_ble_eq_true rfl, Nat.le_of_ble_eq_true rfl⟩ ?_
  refine lv_icmp_eq (tgt := 883) hx hb dL_law_344 (by decide) (fun _ => ?_) (fun h => absurd rfl h)
  exact kk σ J T H locs ⟨hw, hj, hPc, hPm, hS⟩
set_option maxHeartbeats 4000000 in
set_option maxRecDepth 100000 in
theorem lc_7 {p : Program} {l : Launch} {e : Env} {s : State} {m : MethodId} {below : List Frame} {meth : Method} {c : Code} {b L : Nat} {xs : Nat → Int32} {D : va_G} {cy : Nat → ClassId} {ac ad aw aS aV aT : Nat → Nat} (K : LK p s m c b L xs D cy ac ad aw aS aV aT) {i : Nat} (hi : i + 5 ≤ L) {ls : Array Slot} (hl : lv_has ls 4 [(3, .int (nI i)), (2, .ref (ad 0)), (1, .ref (ac 0)), (0, .ref b)]) {σ : Sg} {J : Js} {T : Ms} {H : Heap} {locs : List Loc} (S : LSt s D cy ac ad aw σ J T H locs) (kk : ∀ (σ : Sg) (J : Js) (T : Ms) (H : Heap) (locs : List Loc), LSt s D cy ac ad aw σ J T H locs → LWw p l e s m below meth c b H locs (F0 m 883 ls [])) : LWw p l e s m below meth c b H locs (F0 m 349 ls []) := by
  obtain ⟨hx, hb, hml, hown, hts, hX, hbl, hL, hK, hN, hC, hDD⟩ := K
  obtain ⟨hw, hj, hPc, hPm, hS⟩ := S
  have hA : ∀ q : Nat, s.heap.size ≤ q → LA s q := fun _ h => h
  have hbA : ¬ LA s b := Nat.not_le.mpr hbl
  refine lv_aload_n hx hb dL_law_349 rfl (lv_at hl 2 rfl) ?_
  refine lv_aload_n hx hb dL_law_350 rfl (lv_at hl 3 rfl) ?_
  refine lv_iload_n hx hb dL_law_351 rfl (lv_at hl 0 rfl) ?_
  refine lv_iconst (v := nI 1) hx hb dL_law_352 (by decide) ?_
  refine ln_iadd hx hb dL_law_353 ?_
  refine ln_sld hx hb hX hbl hbA hS (i := i + 1) (by omega) (by omega) dL_law_354 ?_
  refine lv_aload_n hx hb dL_law_355 rfl (lv_at hl 3 rfl) ?_
  refine lv_iload_n hx hb dL_law_356 rfl (lv_at hl 0 rfl) ?_
  refine lv_iconst (v := nI 2) hx hb dL_law_357 (by decide) ?_
  refine ln_iadd hx hb dL_law_358 ?_
  refine ln_sld hx hb hX hbl hbA hS (i := i + 2) (by omega) (by omega) dL_law_359 ?_
  refine cr_v (n := 2) (As := [.int (xs (i + 1)), .int (xs (i + 2))]) (rest := []) ⟨hx, hb, hml, hown, hts⟩ (k_X10_right l D cy ac aw σ J (xs (i + 1)) (xs (i + 2)) hw hj) gvL_46 (by decide +kernel) ⟨Nat.le_of_ble_eq_true rfl, Nat.le_of_ble_eq_true rfl⟩ hK hN hPc 0 (cw_c0 cy ac aw σ J) rfl rfl hl.1 rfl (Nat.le_of_ble_eq_true rfl) dL_law_360 ⟨Nat.le_of_ble_eq_true rfl, Nat.le_of_ble_eq_true rfl⟩ ?_
  refine lv_aload_n hx hb dL_law_363 rfl (lv_at hl 1 rfl) ?_
  refine lv_aload_n hx hb dL_law_364 rfl (lv_at hl 3 rfl) ?_
  refine lv_iload_n hx hb dL_law_365 rfl (lv_at hl 0 rfl) ?_
  refine lv_iconst (v := nI 1) hx hb dL_law_366 (by decide) ?_
  refine ln_iadd hx hb dL_law_367 ?_
  refine ln_sld hx hb hX hbl hbA hS (i := i + 1) (by omega) (by omega) dL_law_368 ?_
  refine lv_aload_n hx hb dL_law_369 rfl (lv_at hl 3 rfl) ?_
  refine lv_iload_n hx hb dL_law_370 rfl (lv_at hl 0 rfl) ?_
  refine lv_iconst (v := nI 2) hx hb dL_law_371 (by decide) ?_
  refine ln_iadd hx hb dL_law_372 ?_
  refine ln_sld hx hb hX hbl hbA hS (i := i + 2) (by omega) (by omega) dL_law_373 ?_
  refine cr_v (n := 2) (As := [.int (xs (i + 1)), .int (xs (i + 2))]) (rest := [.int (a_right σ (xs (i + 1)) (xs (i + 2)))]) ⟨hx, hb, hml, hown, hts⟩ (k_X11_right l D cy ad σ T (xs (i + 1)) (xs (i + 2)) hw) gvL_49 (by decide +kernel) ⟨Nat.le_of_ble_eq_true rfl, Nat.le_of_ble_eq_true rfl⟩ hK hN hPm 0 (mw_c0 cy ad σ T) rfl rfl hl.1 rfl (Nat.le_of_ble_eq_true rfl) dL_law_374 ⟨Nat.le_of_ble_eq_true rfl, Nat.le_of_ble_eq_true rfl⟩ ?_
  refine lv_icmp_eq (tgt := 883) hx hb dL_law_377 (by decide) (fun _ => ?_) (fun h => absurd rfl h)
  exact kk σ J T H locs ⟨hw, hj, hPc, hPm, hS⟩
set_option maxHeartbeats 4000000 in
set_option maxRecDepth 100000 in
theorem lc_8 {p : Program} {l : Launch} {e : Env} {s : State} {m : MethodId} {below : List Frame} {meth : Method} {c : Code} {b L : Nat} {xs : Nat → Int32} {D : va_G} {cy : Nat → ClassId} {ac ad aw aS aV aT : Nat → Nat} (K : LK p s m c b L xs D cy ac ad aw aS aV aT) {i : Nat} (hi : i + 5 ≤ L) {ls : Array Slot} (hl : lv_has ls 4 [(3, .int (nI i)), (2, .ref (ad 0)), (1, .ref (ac 0)), (0, .ref b)]) {σ : Sg} {J : Js} {T : Ms} {H : Heap} {locs : List Loc} (S : LSt s D cy ac ad aw σ J T H locs) (kk : ∀ (σ : Sg) (J : Js) (T : Ms) (H : Heap) (locs : List Loc), LSt s D cy ac ad aw σ J T H locs → LWw p l e s m below meth c b H locs (F0 m 883 ls [])) : LWw p l e s m below meth c b H locs (F0 m 382 ls []) := by
  obtain ⟨hx, hb, hml, hown, hts, hX, hbl, hL, hK, hN, hC, hDD⟩ := K
  obtain ⟨hw, hj, hPc, hPm, hS⟩ := S
  have hA : ∀ q : Nat, s.heap.size ≤ q → LA s q := fun _ h => h
  have hbA : ¬ LA s b := Nat.not_le.mpr hbl
  refine lv_aload_n hx hb dL_law_382 rfl (lv_at hl 2 rfl) ?_
  refine lv_aload_n hx hb dL_law_383 rfl (lv_at hl 3 rfl) ?_
  refine lv_iload_n hx hb dL_law_384 rfl (lv_at hl 0 rfl) ?_
  refine lv_iconst (v := nI 1) hx hb dL_law_385 (by decide) ?_
  refine ln_iadd hx hb dL_law_386 ?_
  refine ln_sld hx hb hX hbl hbA hS (i := i + 1) (by omega) (by omega) dL_law_387 ?_
  refine lv_aload_n hx hb dL_law_388 rfl (lv_at hl 3 rfl) ?_
  refine lv_iload_n hx hb dL_law_389 rfl (lv_at hl 0 rfl) ?_
  refine lv_iconst (v := nI 2) hx hb dL_law_390 (by decide) ?_
  refine ln_iadd hx hb dL_law_391 ?_
  refine ln_sld hx hb hX hbl hbA hS (i := i + 2) (by omega) (by omega) dL_law_392 ?_
  refine cr_w2 (n := 2) (As := [.int (xs (i + 1)), .int (xs (i + 2))]) (rest := []) ⟨hx, hb, hml, hown, hts⟩ (k_X10_cross l D cy ac aw σ J (xs (i + 1)) (xs (i + 2)) hw hj) gvL_50 (by decide +kernel) ⟨Nat.le_of_ble_eq_true rfl, Nat.le_of_ble_eq_true rfl⟩ hK hN hPc (D_left (hDD σ J σ T)) hS hA hPm (D_dis (hDD σ J σ T)) 0 (cw_c0 cy ac aw σ J) rfl rfl hl.1 rfl (Nat.le_of_ble_eq_true rfl) dL_law_393 ⟨Nat.le_of_ble_eq_true rfl, Nat.le_of_ble_eq_true rfl⟩ (fun r1 J1 H locs hp1 hPc hPm hS => ?_)
  refine lv_aload_n hx hb dL_law_396 rfl (lv_at hl 1 rfl) ?_
  refine lv_aload_n hx hb dL_law_397 rfl (lv_at hl 3 rfl) ?_
  refine lv_iload_n hx hb dL_law_398 rfl (lv_at hl 0 rfl) ?_
  refine lv_iconst (v := nI 1) hx hb dL_law_399 (by decide) ?_
  refine ln_iadd hx hb dL_law_400 ?_
  refine ln_sld hx hb hX hbl hbA hS (i := i + 1) (by omega) (by omega) dL_law_401 ?_
  refine lv_aload_n hx hb dL_law_402 rfl (lv_at hl 3 rfl) ?_
  refine lv_iload_n hx hb dL_law_403 rfl (lv_at hl 0 rfl) ?_
  refine lv_iconst (v := nI 2) hx hb dL_law_404 (by decide) ?_
  refine ln_iadd hx hb dL_law_405 ?_
  refine ln_sld hx hb hX hbl hbA hS (i := i + 2) (by omega) (by omega) dL_law_406 ?_
  refine cr_w2 (n := 2) (As := [.int (xs (i + 1)), .int (xs (i + 2))]) (rest := [.int (r1)]) ⟨hx, hb, hml, hown, hts⟩ (k_X11_cross l D cy ad σ T (xs (i + 1)) (xs (i + 2)) hw) gvL_53 (by decide +kernel) ⟨Nat.le_of_ble_eq_true rfl, Nat.le_of_ble_eq_true rfl⟩ hK hN hPm (D_right (hDD (n_cross σ (xs (i + 1)) (xs (i + 2))) J1 σ T)) hS hA hPc (fun i1 j1 p1 q1 h1 h2 => (D_dis (hDD (n_cross σ (xs (i + 1)) (xs (i + 2))) J1 σ T) j1 i1 q1 p1 h2 h1).symm) 0 (mw_c0 cy ad σ T) rfl rfl hl.1 rfl (Nat.le_of_ble_eq_true rfl) dL_law_407 ⟨Nat.le_of_ble_eq_true rfl, Nat.le_of_ble_eq_true rfl⟩ (fun r2 T1 H locs hp2 hPm hPc hS => ?_)
  refine lv_icmp_eq (tgt := 883) hx hb dL_law_410 (by decide) (fun _ => ?_) (fun h => absurd (hp1.1.trans (Eq.symm hp2)) h)
  exact kk (n_cross σ (xs (i + 1)) (xs (i + 2))) J1 T1 H locs ⟨wn_cross hw _ _, hp1.2, hPc, hPm, hS⟩
set_option maxHeartbeats 4000000 in
set_option maxRecDepth 100000 in
theorem lc_9 {p : Program} {l : Launch} {e : Env} {s : State} {m : MethodId} {below : List Frame} {meth : Method} {c : Code} {b L : Nat} {xs : Nat → Int32} {D : va_G} {cy : Nat → ClassId} {ac ad aw aS aV aT : Nat → Nat} (K : LK p s m c b L xs D cy ac ad aw aS aV aT) {i : Nat} (hi : i + 5 ≤ L) {ls : Array Slot} (hl : lv_has ls 4 [(3, .int (nI i)), (2, .ref (ad 0)), (1, .ref (ac 0)), (0, .ref b)]) {σ : Sg} {J : Js} {T : Ms} {H : Heap} {locs : List Loc} (S : LSt s D cy ac ad aw σ J T H locs) (kk : ∀ (σ : Sg) (J : Js) (T : Ms) (H : Heap) (locs : List Loc), LSt s D cy ac ad aw σ J T H locs → LWw p l e s m below meth c b H locs (F0 m 883 ls [])) : LWw p l e s m below meth c b H locs (F0 m 415 ls []) := by
  obtain ⟨hx, hb, hml, hown, hts, hX, hbl, hL, hK, hN, hC, hDD⟩ := K
  obtain ⟨hw, hj, hPc, hPm, hS⟩ := S
  have hA : ∀ q : Nat, s.heap.size ≤ q → LA s q := fun _ h => h
  have hbA : ¬ LA s b := Nat.not_le.mpr hbl
  refine lv_aload_n hx hb dL_law_415 rfl (lv_at hl 2 rfl) ?_
  refine lv_aload_n hx hb dL_law_416 rfl (lv_at hl 3 rfl) ?_
  refine lv_iload_n hx hb dL_law_417 rfl (lv_at hl 0 rfl) ?_
  refine lv_iconst (v := nI 1) hx hb dL_law_418 (by decide) ?_
  refine ln_iadd hx hb dL_law_419 ?_
  refine ln_sld hx hb hX hbl hbA hS (i := i + 1) (by omega) (by omega) dL_law_420 ?_
  refine cr_w2 (n := 1) (As := [.int (xs (i + 1))]) (rest := []) ⟨hx, hb, hml, hown, hts⟩ (k_X10_doff l D cy ac aw σ J (xs (i + 1)) hw hj) gvL_54 (by decide +kernel) ⟨Nat.le_of_ble_eq_true rfl, Nat.le_of_ble_eq_true rfl⟩ hK hN hPc (D_left (hDD σ J σ T)) hS hA hPm (D_dis (hDD σ J σ T)) 0 (cw_c0 cy ac aw σ J) rfl rfl hl.1 rfl (Nat.le_of_ble_eq_true rfl) dL_law_421 ⟨Nat.le_of_ble_eq_true rfl, Nat.le_of_ble_eq_true rfl⟩ (fun r1 J1 H locs hp1 hPc hPm hS => ?_)
  refine lv_aload_n hx hb dL_law_424 rfl (lv_at hl 1 rfl) ?_
  refine lv_aload_n hx hb dL_law_425 rfl (lv_at hl 3 rfl) ?_
  refine lv_iload_n hx hb dL_law_426 rfl (lv_at hl 0 rfl) ?_
  refine lv_iconst (v := nI 1) hx hb dL_law_427 (by decide) ?_
  refine ln_iadd hx hb dL_law_428 ?_
  refine ln_sld hx hb hX hbl hbA hS (i := i + 1) (by omega) (by omega) dL_law_429 ?_
  refine cr_w2 (n := 1) (As := [.int (xs (i + 1))]) (rest := [.int (r1)]) ⟨hx, hb, hml, hown, hts⟩ (k_X11_doff l D cy ad σ T (xs (i + 1)) hw) gvL_58 (by decide +kernel) ⟨Nat.le_of_ble_eq_true rfl, Nat.le_of_ble_eq_true rfl⟩ hK hN hPm (D_right (hDD (n_doff σ (xs (i + 1))) J1 σ T)) hS hA hPc (fun i1 j1 p1 q1 h1 h2 => (D_dis (hDD (n_doff σ (xs (i + 1))) J1 σ T) j1 i1 q1 p1 h2 h1).symm) 0 (mw_c0 cy ad σ T) rfl rfl hl.1 rfl (Nat.le_of_ble_eq_true rfl) dL_law_430 ⟨Nat.le_of_ble_eq_true rfl, Nat.le_of_ble_eq_true rfl⟩ (fun r2 T1 H locs hp2 hPm hPc hS => ?_)
  refine lv_icmp_eq (tgt := 883) hx hb dL_law_433 (by decide) (fun _ => ?_) (fun h => absurd (hp1.1.trans (Eq.symm hp2)) h)
  exact kk (n_doff σ (xs (i + 1))) J1 T1 H locs ⟨wn_doff hw _, hp1.2, hPc, hPm, hS⟩
set_option maxHeartbeats 4000000 in
set_option maxRecDepth 100000 in
theorem lc_10 {p : Program} {l : Launch} {e : Env} {s : State} {m : MethodId} {below : List Frame} {meth : Method} {c : Code} {b L : Nat} {xs : Nat → Int32} {D : va_G} {cy : Nat → ClassId} {ac ad aw aS aV aT : Nat → Nat} (K : LK p s m c b L xs D cy ac ad aw aS aV aT) {i : Nat} (hi : i + 5 ≤ L) {ls : Array Slot} (hl : lv_has ls 4 [(3, .int (nI i)), (2, .ref (ad 0)), (1, .ref (ac 0)), (0, .ref b)]) {σ : Sg} {J : Js} {T : Ms} {H : Heap} {locs : List Loc} (S : LSt s D cy ac ad aw σ J T H locs) (kk : ∀ (σ : Sg) (J : Js) (T : Ms) (H : Heap) (locs : List Loc), LSt s D cy ac ad aw σ J T H locs → LWw p l e s m below meth c b H locs (F0 m 883 ls [])) : LWw p l e s m below meth c b H locs (F0 m 438 ls []) := by
  obtain ⟨hx, hb, hml, hown, hts, hX, hbl, hL, hK, hN, hC, hDD⟩ := K
  obtain ⟨hw, hj, hPc, hPm, hS⟩ := S
  have hA : ∀ q : Nat, s.heap.size ≤ q → LA s q := fun _ h => h
  have hbA : ¬ LA s b := Nat.not_le.mpr hbl
  refine lv_aload_n hx hb dL_law_438 rfl (lv_at hl 2 rfl) ?_
  refine cr_w2 (n := 0) (As := []) (rest := []) ⟨hx, hb, hml, hown, hts⟩ (k_X10_noon l D cy ac aw σ J  hj) gvL_59 (by decide +kernel) ⟨Nat.le_of_ble_eq_true rfl, Nat.le_of_ble_eq_true rfl⟩ hK hN hPc (D_left (hDD σ J σ T)) hS hA hPm (D_dis (hDD σ J σ T)) 0 (cw_c0 cy ac aw σ J) rfl rfl hl.1 rfl (Nat.le_of_ble_eq_true rfl) dL_law_439 ⟨Nat.le_of_ble_eq_true rfl, Nat.le_of_ble_eq_true rfl⟩ (fun r1 J1 H locs hp1 hPc hPm hS => ?_)
  refine lv_aload_n hx hb dL_law_442 rfl (lv_at hl 1 rfl) ?_
  refine cr_w2 (n := 0) (As := []) (rest := [.int (r1)]) ⟨hx, hb, hml, hown, hts⟩ (k_X11_noon l D cy ad σ T  ) gvL_62 (by decide +kernel) ⟨Nat.le_of_ble_eq_true rfl, Nat.le_of_ble_eq_true rfl⟩ hK hN hPm (D_right (hDD (n_noon σ) J1 σ T)) hS hA hPc (fun i1 j1 p1 q1 h1 h2 => (D_dis (hDD (n_noon σ) J1 σ T) j1 i1 q1 p1 h2 h1).symm) 0 (mw_c0 cy ad σ T) rfl rfl hl.1 rfl (Nat.le_of_ble_eq_true rfl) dL_law_443 ⟨Nat.le_of_ble_eq_true rfl, Nat.le_of_ble_eq_true rfl⟩ (fun r2 T1 H locs hp2 hPm hPc hS => ?_)
  refine lv_icmp_eq (tgt := 883) hx hb dL_law_446 (by decide) (fun _ => ?_) (fun h => absurd (hp1.1.trans (Eq.symm hp2)) h)
  exact kk (n_noon σ) J1 T1 H locs ⟨wn_noon hw, hp1.2, hPc, hPm, hS⟩
set_option maxHeartbeats 4000000 in
set_option maxRecDepth 100000 in
theorem lc_11 {p : Program} {l : Launch} {e : Env} {s : State} {m : MethodId} {below : List Frame} {meth : Method} {c : Code} {b L : Nat} {xs : Nat → Int32} {D : va_G} {cy : Nat → ClassId} {ac ad aw aS aV aT : Nat → Nat} (K : LK p s m c b L xs D cy ac ad aw aS aV aT) {i : Nat} (hi : i + 5 ≤ L) {ls : Array Slot} (hl : lv_has ls 4 [(3, .int (nI i)), (2, .ref (ad 0)), (1, .ref (ac 0)), (0, .ref b)]) {σ : Sg} {J : Js} {T : Ms} {H : Heap} {locs : List Loc} (S : LSt s D cy ac ad aw σ J T H locs) (kk : ∀ (σ : Sg) (J : Js) (T : Ms) (H : Heap) (locs : List Loc), LSt s D cy ac ad aw σ J T H locs → LWw p l e s m below meth c b H locs (F0 m 883 ls [])) : LWw p l e s m below meth c b H locs (F0 m 451 ls []) := by
  obtain ⟨hx, hb, hml, hown, hts, hX, hbl, hL, hK, hN, hC, hDD⟩ := K
  obtain ⟨hw, hj, hPc, hPm, hS⟩ := S
  have hA : ∀ q : Nat, s.heap.size ≤ q → LA s q := fun _ h => h
  have hbA : ¬ LA s b := Nat.not_le.mpr hbl
  refine lv_aload_n hx hb dL_law_451 rfl (lv_at hl 2 rfl) ?_
  refine lv_aload_n hx hb dL_law_452 rfl (lv_at hl 3 rfl) ?_
  refine lv_iload_n hx hb dL_law_453 rfl (lv_at hl 0 rfl) ?_
  refine lv_iconst (v := nI 1) hx hb dL_law_454 (by decide) ?_
  refine ln_iadd hx hb dL_law_455 ?_
  refine ln_sld hx hb hX hbl hbA hS (i := i + 1) (by omega) (by omega) dL_law_456 ?_
  refine cr_w2 (n := 1) (As := [.int (xs (i + 1))]) (rest := []) ⟨hx, hb, hml, hown, hts⟩ (k_X10_keep l D cy ac aw σ J (xs (i + 1)) hj) gvL_63 (by decide +kernel) ⟨Nat.le_of_ble_eq_true rfl, Nat.le_of_ble_eq_true rfl⟩ hK hN hPc (D_left (hDD σ J σ T)) hS hA hPm (D_dis (hDD σ J σ T)) 0 (cw_c0 cy ac aw σ J) rfl rfl hl.1 rfl (Nat.le_of_ble_eq_true rfl) dL_law_457 ⟨Nat.le_of_ble_eq_true rfl, Nat.le_of_ble_eq_true rfl⟩ (fun r1 J1 H locs hp1 hPc hPm hS => ?_)
  refine lv_aload_n hx hb dL_law_460 rfl (lv_at hl 1 rfl) ?_
  refine lv_aload_n hx hb dL_law_461 rfl (lv_at hl 3 rfl) ?_
  refine lv_iload_n hx hb dL_law_462 rfl (lv_at hl 0 rfl) ?_
  refine lv_iconst (v := nI 1) hx hb dL_law_463 (by decide) ?_
  refine ln_iadd hx hb dL_law_464 ?_
  refine ln_sld hx hb hX hbl hbA hS (i := i + 1) (by omega) (by omega) dL_law_465 ?_
  refine cr_w2 (n := 1) (As := [.int (xs (i + 1))]) (rest := [.int (r1)]) ⟨hx, hb, hml, hown, hts⟩ (k_X11_keep l D cy ad σ T (xs (i + 1)) hw) gvL_66 (by decide +kernel) ⟨Nat.le_of_ble_eq_true rfl, Nat.le_of_ble_eq_true rfl⟩ hK hN hPm (D_right (hDD (n_keep σ (xs (i + 1))) J1 σ T)) hS hA hPc (fun i1 j1 p1 q1 h1 h2 => (D_dis (hDD (n_keep σ (xs (i + 1))) J1 σ T) j1 i1 q1 p1 h2 h1).symm) 0 (mw_c0 cy ad σ T) rfl rfl hl.1 rfl (Nat.le_of_ble_eq_true rfl) dL_law_466 ⟨Nat.le_of_ble_eq_true rfl, Nat.le_of_ble_eq_true rfl⟩ (fun r2 T1 H locs hp2 hPm hPc hS => ?_)
  refine lv_icmp_eq (tgt := 883) hx hb dL_law_469 (by decide) (fun _ => ?_) (fun h => absurd (hp1.1.trans (Eq.symm hp2)) h)
  exact kk (n_keep σ (xs (i + 1))) J1 T1 H locs ⟨wn_keep hw _, hp1.2, hPc, hPm, hS⟩
set_option maxHeartbeats 4000000 in
set_option maxRecDepth 100000 in
theorem lc_12 {p : Program} {l : Launch} {e : Env} {s : State} {m : MethodId} {below : List Frame} {meth : Method} {c : Code} {b L : Nat} {xs : Nat → Int32} {D : va_G} {cy : Nat → ClassId} {ac ad aw aS aV aT : Nat → Nat} (K : LK p s m c b L xs D cy ac ad aw aS aV aT) {i : Nat} (hi : i + 5 ≤ L) {ls : Array Slot} (hl : lv_has ls 4 [(3, .int (nI i)), (2, .ref (ad 0)), (1, .ref (ac 0)), (0, .ref b)]) {σ : Sg} {J : Js} {T : Ms} {H : Heap} {locs : List Loc} (S : LSt s D cy ac ad aw σ J T H locs) (kk : ∀ (σ : Sg) (J : Js) (T : Ms) (H : Heap) (locs : List Loc), LSt s D cy ac ad aw σ J T H locs → LWw p l e s m below meth c b H locs (F0 m 883 ls [])) : LWw p l e s m below meth c b H locs (F0 m 474 ls []) := by
  obtain ⟨hx, hb, hml, hown, hts, hX, hbl, hL, hK, hN, hC, hDD⟩ := K
  obtain ⟨hw, hj, hPc, hPm, hS⟩ := S
  have hA : ∀ q : Nat, s.heap.size ≤ q → LA s q := fun _ h => h
  have hbA : ¬ LA s b := Nat.not_le.mpr hbl
  refine lv_aload_n hx hb dL_law_474 rfl (lv_at hl 2 rfl) ?_
  refine lv_aload_n hx hb dL_law_475 rfl (lv_at hl 3 rfl) ?_
  refine lv_iload_n hx hb dL_law_476 rfl (lv_at hl 0 rfl) ?_
  refine lv_iconst (v := nI 1) hx hb dL_law_477 (by decide) ?_
  refine ln_iadd hx hb dL_law_478 ?_
  refine ln_sld hx hb hX hbl hbA hS (i := i + 1) (by omega) (by omega) dL_law_479 ?_
  refine cr_w2 (n := 1) (As := [.int (xs (i + 1))]) (rest := []) ⟨hx, hb, hml, hown, hts⟩ (k_X10_back l D cy ac aw σ J (xs (i + 1)) hw hj) gvL_67 (by decide +kernel) ⟨Nat.le_of_ble_eq_true rfl, Nat.le_of_ble_eq_true rfl⟩ hK hN hPc (D_left (hDD σ J σ T)) hS hA hPm (D_dis (hDD σ J σ T)) 0 (cw_c0 cy ac aw σ J) rfl rfl hl.1 rfl (Nat.le_of_ble_eq_true rfl) dL_law_480 ⟨Nat.le_of_ble_eq_true rfl, Nat.le_of_ble_eq_true rfl⟩ (fun r1 J1 H locs hp1 hPc hPm hS => ?_)
  refine lv_aload_n hx hb dL_law_483 rfl (lv_at hl 1 rfl) ?_
  refine lv_aload_n hx hb dL_law_484 rfl (lv_at hl 3 rfl) ?_
  refine lv_iload_n hx hb dL_law_485 rfl (lv_at hl 0 rfl) ?_
  refine lv_iconst (v := nI 1) hx hb dL_law_486 (by decide) ?_
  refine ln_iadd hx hb dL_law_487 ?_
  refine ln_sld hx hb hX hbl hbA hS (i := i + 1) (by omega) (by omega) dL_law_488 ?_
  refine cr_w2 (n := 1) (As := [.int (xs (i + 1))]) (rest := [.int (r1)]) ⟨hx, hb, hml, hown, hts⟩ (k_X11_back l D cy ad σ T (xs (i + 1)) hw) gvL_70 (by decide +kernel) ⟨Nat.le_of_ble_eq_true rfl, Nat.le_of_ble_eq_true rfl⟩ hK hN hPm (D_right (hDD (n_back σ (xs (i + 1))) J1 σ T)) hS hA hPc (fun i1 j1 p1 q1 h1 h2 => (D_dis (hDD (n_back σ (xs (i + 1))) J1 σ T) j1 i1 q1 p1 h2 h1).symm) 0 (mw_c0 cy ad σ T) rfl rfl hl.1 rfl (Nat.le_of_ble_eq_true rfl) dL_law_489 ⟨Nat.le_of_ble_eq_true rfl, Nat.le_of_ble_eq_true rfl⟩ (fun r2 T1 H locs hp2 hPm hPc hS => ?_)
  refine lv_icmp_eq (tgt := 883) hx hb dL_law_492 (by decide) (fun _ => ?_) (fun h => absurd (hp1.1.trans (Eq.symm hp2)) h)
  exact kk (n_back σ (xs (i + 1))) J1 T1 H locs ⟨wn_back hw _, hp1.2, hPc, hPm, hS⟩
set_option maxHeartbeats 4000000 in
set_option maxRecDepth 100000 in
theorem lc_13 {p : Program} {l : Launch} {e : Env} {s : State} {m : MethodId} {below : List Frame} {meth : Method} {c : Code} {b L : Nat} {xs : Nat → Int32} {D : va_G} {cy : Nat → ClassId} {ac ad aw aS aV aT : Nat → Nat} (K : LK p s m c b L xs D cy ac ad aw aS aV aT) {i : Nat} (hi : i + 5 ≤ L) {ls : Array Slot} (hl : lv_has ls 4 [(3, .int (nI i)), (2, .ref (ad 0)), (1, .ref (ac 0)), (0, .ref b)]) {σ : Sg} {J : Js} {T : Ms} {H : Heap} {locs : List Loc} (S : LSt s D cy ac ad aw σ J T H locs) (kk : ∀ (σ : Sg) (J : Js) (T : Ms) (H : Heap) (locs : List Loc), LSt s D cy ac ad aw σ J T H locs → LWw p l e s m below meth c b H locs (F0 m 883 ls [])) : LWw p l e s m below meth c b H locs (F0 m 497 ls []) := by
  obtain ⟨hx, hb, hml, hown, hts, hX, hbl, hL, hK, hN, hC, hDD⟩ := K
  obtain ⟨hw, hj, hPc, hPm, hS⟩ := S
  have hA : ∀ q : Nat, s.heap.size ≤ q → LA s q := fun _ h => h
  have hbA : ¬ LA s b := Nat.not_le.mpr hbl
  refine lv_aload_n hx hb dL_law_497 rfl (lv_at hl 2 rfl) ?_
  refine lv_aload_n hx hb dL_law_498 rfl (lv_at hl 3 rfl) ?_
  refine lv_iload_n hx hb dL_law_499 rfl (lv_at hl 0 rfl) ?_
  refine lv_iconst (v := nI 1) hx hb dL_law_500 (by decide) ?_
  refine ln_iadd hx hb dL_law_501 ?_
  refine ln_sld hx hb hX hbl hbA hS (i := i + 1) (by omega) (by omega) dL_law_502 ?_
  refine lv_aload_n hx hb dL_law_503 rfl (lv_at hl 3 rfl) ?_
  refine lv_iload_n hx hb dL_law_504 rfl (lv_at hl 0 rfl) ?_
  refine lv_iconst (v := nI 2) hx hb dL_law_505 (by decide) ?_
  refine ln_iadd hx hb dL_law_506 ?_
  refine ln_sld hx hb hX hbl hbA hS (i := i + 2) (by omega) (by omega) dL_law_507 ?_
  refine cr_w2 (n := 2) (As := [.int (xs (i + 1)), .int (xs (i + 2))]) (rest := []) ⟨hx, hb, hml, hown, hts⟩ (k_X10_loads l D cy ac aw σ J (xs (i + 1)) (xs (i + 2)) hw hj) gvL_71 (by decide +kernel) ⟨Nat.le_of_ble_eq_true rfl, Nat.le_of_ble_eq_true rfl⟩ hK hN hPc (D_left (hDD σ J σ T)) hS hA hPm (D_dis (hDD σ J σ T)) 0 (cw_c0 cy ac aw σ J) rfl rfl hl.1 rfl (Nat.le_of_ble_eq_true rfl) dL_law_508 ⟨Nat.le_of_ble_eq_true rfl, Nat.le_of_ble_eq_true rfl⟩ (fun r1 J1 H locs hp1 hPc hPm hS => ?_)
  refine lv_aload_n hx hb dL_law_511 rfl (lv_at hl 1 rfl) ?_
  refine lv_aload_n hx hb dL_law_512 rfl (lv_at hl 3 rfl) ?_
  refine lv_iload_n hx hb dL_law_513 rfl (lv_at hl 0 rfl) ?_
  refine lv_iconst (v := nI 1) hx hb dL_law_514 (by decide) ?_
  refine ln_iadd hx hb dL_law_515 ?_
  refine ln_sld hx hb hX hbl hbA hS (i := i + 1) (by omega) (by omega) dL_law_516 ?_
  refine lv_aload_n hx hb dL_law_517 rfl (lv_at hl 3 rfl) ?_
  refine lv_iload_n hx hb dL_law_518 rfl (lv_at hl 0 rfl) ?_
  refine lv_iconst (v := nI 2) hx hb dL_law_519 (by decide) ?_
  refine ln_iadd hx hb dL_law_520 ?_
  refine ln_sld hx hb hX hbl hbA hS (i := i + 2) (by omega) (by omega) dL_law_521 ?_
  refine cr_v (n := 2) (As := [.int (xs (i + 1)), .int (xs (i + 2))]) (rest := [.int (r1)]) ⟨hx, hb, hml, hown, hts⟩ (k_X11_loads l D cy ad σ T (xs (i + 1)) (xs (i + 2)) hw) gvL_74 (by decide +kernel) ⟨Nat.le_of_ble_eq_true rfl, Nat.le_of_ble_eq_true rfl⟩ hK hN hPm 0 (mw_c0 cy ad σ T) rfl rfl hl.1 rfl (Nat.le_of_ble_eq_true rfl) dL_law_522 ⟨Nat.le_of_ble_eq_true rfl, Nat.le_of_ble_eq_true rfl⟩ ?_
  refine lv_icmp_eq (tgt := 883) hx hb dL_law_525 (by decide) (fun _ => ?_) (fun h => absurd hp1.1 h)
  exact kk σ J1 T H locs ⟨hw, hp1.2, hPc, hPm, hS⟩
set_option maxHeartbeats 4000000 in
set_option maxRecDepth 100000 in
theorem lc_14 {p : Program} {l : Launch} {e : Env} {s : State} {m : MethodId} {below : List Frame} {meth : Method} {c : Code} {b L : Nat} {xs : Nat → Int32} {D : va_G} {cy : Nat → ClassId} {ac ad aw aS aV aT : Nat → Nat} (K : LK p s m c b L xs D cy ac ad aw aS aV aT) {i : Nat} (hi : i + 5 ≤ L) {ls : Array Slot} (hl : lv_has ls 4 [(3, .int (nI i)), (2, .ref (ad 0)), (1, .ref (ac 0)), (0, .ref b)]) {σ : Sg} {J : Js} {T : Ms} {H : Heap} {locs : List Loc} (S : LSt s D cy ac ad aw σ J T H locs) (kk : ∀ (σ : Sg) (J : Js) (T : Ms) (H : Heap) (locs : List Loc), LSt s D cy ac ad aw σ J T H locs → LWw p l e s m below meth c b H locs (F0 m 883 ls [])) : LWw p l e s m below meth c b H locs (F0 m 530 ls []) := by
  obtain ⟨hx, hb, hml, hown, hts, hX, hbl, hL, hK, hN, hC, hDD⟩ := K
  obtain ⟨hw, hj, hPc, hPm, hS⟩ := S
  have hA : ∀ q : Nat, s.heap.size ≤ q → LA s q := fun _ h => h
  have hbA : ¬ LA s b := Nat.not_le.mpr hbl
  refine lv_aload_n hx hb dL_law_530 rfl (lv_at hl 2 rfl) ?_
  refine lv_aload_n hx hb dL_law_531 rfl (lv_at hl 3 rfl) ?_
  refine lv_iload_n hx hb dL_law_532 rfl (lv_at hl 0 rfl) ?_
  refine lv_iconst (v := nI 1) hx hb dL_law_533 (by decide) ?_
  refine ln_iadd hx hb dL_law_534 ?_
  refine ln_sld hx hb hX hbl hbA hS (i := i + 1) (by omega) (by omega) dL_law_535 ?_
  refine lv_aload_n hx hb dL_law_536 rfl (lv_at hl 3 rfl) ?_
  refine lv_iload_n hx hb dL_law_537 rfl (lv_at hl 0 rfl) ?_
  refine lv_iconst (v := nI 2) hx hb dL_law_538 (by decide) ?_
  refine ln_iadd hx hb dL_law_539 ?_
  refine ln_sld hx hb hX hbl hbA hS (i := i + 2) (by omega) (by omega) dL_law_540 ?_
  refine cr_v (n := 2) (As := [.int (xs (i + 1)), .int (xs (i + 2))]) (rest := []) ⟨hx, hb, hml, hown, hts⟩ (k_X10_weighed l D cy ac aw σ J (xs (i + 1)) (xs (i + 2)) hw hj) gvL_75 (by decide +kernel) ⟨Nat.le_of_ble_eq_true rfl, Nat.le_of_ble_eq_true rfl⟩ hK hN hPc 0 (cw_c0 cy ac aw σ J) rfl rfl hl.1 rfl (Nat.le_of_ble_eq_true rfl) dL_law_541 ⟨Nat.le_of_ble_eq_true rfl, Nat.le_of_ble_eq_true rfl⟩ ?_
  refine lv_aload_n hx hb dL_law_544 rfl (lv_at hl 1 rfl) ?_
  refine lv_aload_n hx hb dL_law_545 rfl (lv_at hl 3 rfl) ?_
  refine lv_iload_n hx hb dL_law_546 rfl (lv_at hl 0 rfl) ?_
  refine lv_iconst (v := nI 1) hx hb dL_law_547 (by decide) ?_
  refine ln_iadd hx hb dL_law_548 ?_
  refine ln_sld hx hb hX hbl hbA hS (i := i + 1) (by omega) (by omega) dL_law_549 ?_
  refine lv_aload_n hx hb dL_law_550 rfl (lv_at hl 3 rfl) ?_
  refine lv_iload_n hx hb dL_law_551 rfl (lv_at hl 0 rfl) ?_
  refine lv_iconst (v := nI 2) hx hb dL_law_552 (by decide) ?_
  refine ln_iadd hx hb dL_law_553 ?_
  refine ln_sld hx hb hX hbl hbA hS (i := i + 2) (by omega) (by omega) dL_law_554 ?_
  refine cr_v (n := 2) (As := [.int (xs (i + 1)), .int (xs (i + 2))]) (rest := [.int (a_weighed σ (xs (i + 1)) (xs (i + 2)))]) ⟨hx, hb, hml, hown, hts⟩ (k_X11_weighed l D cy ad σ T (xs (i + 1)) (xs (i + 2)) hw) gvL_78 (by decide +kernel) ⟨Nat.le_of_ble_eq_true rfl, Nat.le_of_ble_eq_true rfl⟩ hK hN hPm 0 (mw_c0 cy ad σ T) rfl rfl hl.1 rfl (Nat.le_of_ble_eq_true rfl) dL_law_555 ⟨Nat.le_of_ble_eq_true rfl, Nat.le_of_ble_eq_true rfl⟩ ?_
  refine lv_icmp_eq (tgt := 883) hx hb dL_law_558 (by decide) (fun _ => ?_) (fun h => absurd rfl h)
  exact kk σ J T H locs ⟨hw, hj, hPc, hPm, hS⟩
set_option maxHeartbeats 4000000 in
set_option maxRecDepth 100000 in
theorem lc_15 {p : Program} {l : Launch} {e : Env} {s : State} {m : MethodId} {below : List Frame} {meth : Method} {c : Code} {b L : Nat} {xs : Nat → Int32} {D : va_G} {cy : Nat → ClassId} {ac ad aw aS aV aT : Nat → Nat} (K : LK p s m c b L xs D cy ac ad aw aS aV aT) {i : Nat} (hi : i + 5 ≤ L) {ls : Array Slot} (hl : lv_has ls 4 [(3, .int (nI i)), (2, .ref (ad 0)), (1, .ref (ac 0)), (0, .ref b)]) {σ : Sg} {J : Js} {T : Ms} {H : Heap} {locs : List Loc} (S : LSt s D cy ac ad aw σ J T H locs) (kk : ∀ (σ : Sg) (J : Js) (T : Ms) (H : Heap) (locs : List Loc), LSt s D cy ac ad aw σ J T H locs → LWw p l e s m below meth c b H locs (F0 m 883 ls [])) : LWw p l e s m below meth c b H locs (F0 m 563 ls []) := by
  obtain ⟨hx, hb, hml, hown, hts, hX, hbl, hL, hK, hN, hC, hDD⟩ := K
  obtain ⟨hw, hj, hPc, hPm, hS⟩ := S
  have hA : ∀ q : Nat, s.heap.size ≤ q → LA s q := fun _ h => h
  have hbA : ¬ LA s b := Nat.not_le.mpr hbl
  refine lv_aload_n hx hb dL_law_563 rfl (lv_at hl 2 rfl) ?_
  refine lv_aload_n hx hb dL_law_564 rfl (lv_at hl 3 rfl) ?_
  refine lv_iload_n hx hb dL_law_565 rfl (lv_at hl 0 rfl) ?_
  refine lv_iconst (v := nI 1) hx hb dL_law_566 (by decide) ?_
  refine ln_iadd hx hb dL_law_567 ?_
  refine ln_sld hx hb hX hbl hbA hS (i := i + 1) (by omega) (by omega) dL_law_568 ?_
  refine lv_aload_n hx hb dL_law_569 rfl (lv_at hl 3 rfl) ?_
  refine lv_iload_n hx hb dL_law_570 rfl (lv_at hl 0 rfl) ?_
  refine lv_iconst (v := nI 2) hx hb dL_law_571 (by decide) ?_
  refine ln_iadd hx hb dL_law_572 ?_
  refine ln_sld hx hb hX hbl hbA hS (i := i + 2) (by omega) (by omega) dL_law_573 ?_
  refine lv_aload_n hx hb dL_law_574 rfl (lv_at hl 3 rfl) ?_
  refine lv_iload_n hx hb dL_law_575 rfl (lv_at hl 0 rfl) ?_
  refine lv_iconst (v := nI 3) hx hb dL_law_576 (by decide) ?_
  refine ln_iadd hx hb dL_law_577 ?_
  refine ln_sld hx hb hX hbl hbA hS (i := i + 3) (by omega) (by omega) dL_law_578 ?_
  refine cr_v (n := 3) (As := [.int (xs (i + 1)), .int (xs (i + 2)), .int (xs (i + 3))]) (rest := []) ⟨hx, hb, hml, hown, hts⟩ (k_X10_hats l D cy ac aw σ J (xs (i + 1)) (xs (i + 2)) (xs (i + 3)) hw hj) gvL_79 (by decide +kernel) ⟨Nat.le_of_ble_eq_true rfl, Nat.le_of_ble_eq_true rfl⟩ hK hN hPc 0 (cw_c0 cy ac aw σ J) rfl rfl hl.1 rfl (Nat.le_of_ble_eq_true rfl) dL_law_579 ⟨Nat.le_of_ble_eq_true rfl, Nat.le_of_ble_eq_true rfl⟩ ?_
  refine lv_aload_n hx hb dL_law_582 rfl (lv_at hl 1 rfl) ?_
  refine lv_aload_n hx hb dL_law_583 rfl (lv_at hl 3 rfl) ?_
  refine lv_iload_n hx hb dL_law_584 rfl (lv_at hl 0 rfl) ?_
  refine lv_iconst (v := nI 1) hx hb dL_law_585 (by decide) ?_
  refine ln_iadd hx hb dL_law_586 ?_
  refine ln_sld hx hb hX hbl hbA hS (i := i + 1) (by omega) (by omega) dL_law_587 ?_
  refine lv_aload_n hx hb dL_law_588 rfl (lv_at hl 3 rfl) ?_
  refine lv_iload_n hx hb dL_law_589 rfl (lv_at hl 0 rfl) ?_
  refine lv_iconst (v := nI 2) hx hb dL_law_590 (by decide) ?_
  refine ln_iadd hx hb dL_law_591 ?_
  refine ln_sld hx hb hX hbl hbA hS (i := i + 2) (by omega) (by omega) dL_law_592 ?_
  refine lv_aload_n hx hb dL_law_593 rfl (lv_at hl 3 rfl) ?_
  refine lv_iload_n hx hb dL_law_594 rfl (lv_at hl 0 rfl) ?_
  refine lv_iconst (v := nI 3) hx hb dL_law_595 (by decide) ?_
  refine ln_iadd hx hb dL_law_596 ?_
  refine ln_sld hx hb hX hbl hbA hS (i := i + 3) (by omega) (by omega) dL_law_597 ?_
  refine cr_v (n := 3) (As := [.int (xs (i + 1)), .int (xs (i + 2)), .int (xs (i + 3))]) (rest := [.int (a_hats σ (xs (i + 1)) (xs (i + 2)) (xs (i + 3)))]) ⟨hx, hb, hml, hown, hts⟩ (k_X11_hats l D cy ad σ T (xs (i + 1)) (xs (i + 2)) (xs (i + 3)) hw) gvL_83 (by decide +kernel) ⟨Nat.le_of_ble_eq_true rfl, Nat.le_of_ble_eq_true rfl⟩ hK hN hPm 0 (mw_c0 cy ad σ T) rfl rfl hl.1 rfl (Nat.le_of_ble_eq_true rfl) dL_law_598 ⟨Nat.le_of_ble_eq_true rfl, Nat.le_of_ble_eq_true rfl⟩ ?_
  refine lv_icmp_eq (tgt := 883) hx hb dL_law_601 (by decide) (fun _ => ?_) (fun h => absurd rfl h)
  exact kk σ J T H locs ⟨hw, hj, hPc, hPm, hS⟩
set_option maxHeartbeats 4000000 in
set_option maxRecDepth 100000 in
theorem lc_16 {p : Program} {l : Launch} {e : Env} {s : State} {m : MethodId} {below : List Frame} {meth : Method} {c : Code} {b L : Nat} {xs : Nat → Int32} {D : va_G} {cy : Nat → ClassId} {ac ad aw aS aV aT : Nat → Nat} (K : LK p s m c b L xs D cy ac ad aw aS aV aT) {i : Nat} (hi : i + 5 ≤ L) {ls : Array Slot} (hl : lv_has ls 4 [(3, .int (nI i)), (2, .ref (ad 0)), (1, .ref (ac 0)), (0, .ref b)]) {σ : Sg} {J : Js} {T : Ms} {H : Heap} {locs : List Loc} (S : LSt s D cy ac ad aw σ J T H locs) (kk : ∀ (σ : Sg) (J : Js) (T : Ms) (H : Heap) (locs : List Loc), LSt s D cy ac ad aw σ J T H locs → LWw p l e s m below meth c b H locs (F0 m 883 ls [])) : LWw p l e s m below meth c b H locs (F0 m 606 ls []) := by
  obtain ⟨hx, hb, hml, hown, hts, hX, hbl, hL, hK, hN, hC, hDD⟩ := K
  obtain ⟨hw, hj, hPc, hPm, hS⟩ := S
  have hA : ∀ q : Nat, s.heap.size ≤ q → LA s q := fun _ h => h
  have hbA : ¬ LA s b := Nat.not_le.mpr hbl
  refine lv_aload_n hx hb dL_law_606 rfl (lv_at hl 2 rfl) ?_
  refine lv_aload_n hx hb dL_law_607 rfl (lv_at hl 3 rfl) ?_
  refine lv_iload_n hx hb dL_law_608 rfl (lv_at hl 0 rfl) ?_
  refine lv_iconst (v := nI 1) hx hb dL_law_609 (by decide) ?_
  refine ln_iadd hx hb dL_law_610 ?_
  refine ln_sld hx hb hX hbl hbA hS (i := i + 1) (by omega) (by omega) dL_law_611 ?_
  refine lv_aload_n hx hb dL_law_612 rfl (lv_at hl 3 rfl) ?_
  refine lv_iload_n hx hb dL_law_613 rfl (lv_at hl 0 rfl) ?_
  refine lv_iconst (v := nI 2) hx hb dL_law_614 (by decide) ?_
  refine ln_iadd hx hb dL_law_615 ?_
  refine ln_sld hx hb hX hbl hbA hS (i := i + 2) (by omega) (by omega) dL_law_616 ?_
  refine lv_aload_n hx hb dL_law_617 rfl (lv_at hl 3 rfl) ?_
  refine lv_iload_n hx hb dL_law_618 rfl (lv_at hl 0 rfl) ?_
  refine lv_iconst (v := nI 3) hx hb dL_law_619 (by decide) ?_
  refine ln_iadd hx hb dL_law_620 ?_
  refine ln_sld hx hb hX hbl hbA hS (i := i + 3) (by omega) (by omega) dL_law_621 ?_
  refine cr_v (n := 3) (As := [.int (xs (i + 1)), .int (xs (i + 2)), .int (xs (i + 3))]) (rest := []) ⟨hx, hb, hml, hown, hts⟩ (k_X10_stones l D cy ac aw σ J (xs (i + 1)) (xs (i + 2)) (xs (i + 3)) hw hj) gvL_84 (by decide +kernel) ⟨Nat.le_of_ble_eq_true rfl, Nat.le_of_ble_eq_true rfl⟩ hK hN hPc 0 (cw_c0 cy ac aw σ J) rfl rfl hl.1 rfl (Nat.le_of_ble_eq_true rfl) dL_law_622 ⟨Nat.le_of_ble_eq_true rfl, Nat.le_of_ble_eq_true rfl⟩ ?_
  refine lv_aload_n hx hb dL_law_625 rfl (lv_at hl 1 rfl) ?_
  refine lv_aload_n hx hb dL_law_626 rfl (lv_at hl 3 rfl) ?_
  refine lv_iload_n hx hb dL_law_627 rfl (lv_at hl 0 rfl) ?_
  refine lv_iconst (v := nI 1) hx hb dL_law_628 (by decide) ?_
  refine ln_iadd hx hb dL_law_629 ?_
  refine ln_sld hx hb hX hbl hbA hS (i := i + 1) (by omega) (by omega) dL_law_630 ?_
  refine lv_aload_n hx hb dL_law_631 rfl (lv_at hl 3 rfl) ?_
  refine lv_iload_n hx hb dL_law_632 rfl (lv_at hl 0 rfl) ?_
  refine lv_iconst (v := nI 2) hx hb dL_law_633 (by decide) ?_
  refine ln_iadd hx hb dL_law_634 ?_
  refine ln_sld hx hb hX hbl hbA hS (i := i + 2) (by omega) (by omega) dL_law_635 ?_
  refine lv_aload_n hx hb dL_law_636 rfl (lv_at hl 3 rfl) ?_
  refine lv_iload_n hx hb dL_law_637 rfl (lv_at hl 0 rfl) ?_
  refine lv_iconst (v := nI 3) hx hb dL_law_638 (by decide) ?_
  refine ln_iadd hx hb dL_law_639 ?_
  refine ln_sld hx hb hX hbl hbA hS (i := i + 3) (by omega) (by omega) dL_law_640 ?_
  refine cr_v (n := 3) (As := [.int (xs (i + 1)), .int (xs (i + 2)), .int (xs (i + 3))]) (rest := [.int (a_stones σ (xs (i + 1)) (xs (i + 2)) (xs (i + 3)))]) ⟨hx, hb, hml, hown, hts⟩ (k_X11_stones l D cy ad σ T (xs (i + 1)) (xs (i + 2)) (xs (i + 3)) hw) gvL_87 (by decide +kernel) ⟨Nat.le_of_ble_eq_true rfl, Nat.le_of_ble_eq_true rfl⟩ hK hN hPm 0 (mw_c0 cy ad σ T) rfl rfl hl.1 rfl (Nat.le_of_ble_eq_true rfl) dL_law_641 ⟨Nat.le_of_ble_eq_true rfl, Nat.le_of_ble_eq_true rfl⟩ ?_
  refine lv_icmp_eq (tgt := 883) hx hb dL_law_644 (by decide) (fun _ => ?_) (fun h => absurd rfl h)
  exact kk σ J T H locs ⟨hw, hj, hPc, hPm, hS⟩
set_option maxHeartbeats 4000000 in
set_option maxRecDepth 100000 in
theorem lc_17 {p : Program} {l : Launch} {e : Env} {s : State} {m : MethodId} {below : List Frame} {meth : Method} {c : Code} {b L : Nat} {xs : Nat → Int32} {D : va_G} {cy : Nat → ClassId} {ac ad aw aS aV aT : Nat → Nat} (K : LK p s m c b L xs D cy ac ad aw aS aV aT) {i : Nat} (hi : i + 5 ≤ L) {ls : Array Slot} (hl : lv_has ls 4 [(3, .int (nI i)), (2, .ref (ad 0)), (1, .ref (ac 0)), (0, .ref b)]) {σ : Sg} {J : Js} {T : Ms} {H : Heap} {locs : List Loc} (S : LSt s D cy ac ad aw σ J T H locs) (kk : ∀ (σ : Sg) (J : Js) (T : Ms) (H : Heap) (locs : List Loc), LSt s D cy ac ad aw σ J T H locs → LWw p l e s m below meth c b H locs (F0 m 883 ls [])) : LWw p l e s m below meth c b H locs (F0 m 649 ls []) := by
  obtain ⟨hx, hb, hml, hown, hts, hX, hbl, hL, hK, hN, hC, hDD⟩ := K
  obtain ⟨hw, hj, hPc, hPm, hS⟩ := S
  have hA : ∀ q : Nat, s.heap.size ≤ q → LA s q := fun _ h => h
  have hbA : ¬ LA s b := Nat.not_le.mpr hbl
  refine lv_aload_n hx hb dL_law_649 rfl (lv_at hl 2 rfl) ?_
  refine lv_aload_n hx hb dL_law_650 rfl (lv_at hl 3 rfl) ?_
  refine lv_iload_n hx hb dL_law_651 rfl (lv_at hl 0 rfl) ?_
  refine lv_iconst (v := nI 1) hx hb dL_law_652 (by decide) ?_
  refine ln_iadd hx hb dL_law_653 ?_
  refine ln_sld hx hb hX hbl hbA hS (i := i + 1) (by omega) (by omega) dL_law_654 ?_
  refine cr_w2 (n := 1) (As := [.int (xs (i + 1))]) (rest := []) ⟨hx, hb, hml, hown, hts⟩ (k_X10_sure l D cy ac aw σ J (xs (i + 1)) hw hj) gvL_88 (by decide +kernel) ⟨Nat.le_of_ble_eq_true rfl, Nat.le_of_ble_eq_true rfl⟩ hK hN hPc (D_left (hDD σ J σ T)) hS hA hPm (D_dis (hDD σ J σ T)) 0 (cw_c0 cy ac aw σ J) rfl rfl hl.1 rfl (Nat.le_of_ble_eq_true rfl) dL_law_655 ⟨Nat.le_of_ble_eq_true rfl, Nat.le_of_ble_eq_true rfl⟩ (fun r1 J1 H locs hp1 hPc hPm hS => ?_)
  refine lv_aload_n hx hb dL_law_658 rfl (lv_at hl 1 rfl) ?_
  refine lv_aload_n hx hb dL_law_659 rfl (lv_at hl 3 rfl) ?_
  refine lv_iload_n hx hb dL_law_660 rfl (lv_at hl 0 rfl) ?_
  refine lv_iconst (v := nI 1) hx hb dL_law_661 (by decide) ?_
  refine ln_iadd hx hb dL_law_662 ?_
  refine ln_sld hx hb hX hbl hbA hS (i := i + 1) (by omega) (by omega) dL_law_663 ?_
  refine cr_v (n := 1) (As := [.int (xs (i + 1))]) (rest := [.int (r1)]) ⟨hx, hb, hml, hown, hts⟩ (k_X11_sure l D cy ad σ T (xs (i + 1)) hw) gvL_91 (by decide +kernel) ⟨Nat.le_of_ble_eq_true rfl, Nat.le_of_ble_eq_true rfl⟩ hK hN hPm 0 (mw_c0 cy ad σ T) rfl rfl hl.1 rfl (Nat.le_of_ble_eq_true rfl) dL_law_664 ⟨Nat.le_of_ble_eq_true rfl, Nat.le_of_ble_eq_true rfl⟩ ?_
  refine lv_icmp_eq (tgt := 883) hx hb dL_law_667 (by decide) (fun _ => ?_) (fun h => absurd hp1.1 h)
  exact kk σ J1 T H locs ⟨hw, hp1.2, hPc, hPm, hS⟩
set_option maxHeartbeats 4000000 in
set_option maxRecDepth 100000 in
theorem lc_18 {p : Program} {l : Launch} {e : Env} {s : State} {m : MethodId} {below : List Frame} {meth : Method} {c : Code} {b L : Nat} {xs : Nat → Int32} {D : va_G} {cy : Nat → ClassId} {ac ad aw aS aV aT : Nat → Nat} (K : LK p s m c b L xs D cy ac ad aw aS aV aT) {i : Nat} (hi : i + 5 ≤ L) {ls : Array Slot} (hl : lv_has ls 4 [(3, .int (nI i)), (2, .ref (ad 0)), (1, .ref (ac 0)), (0, .ref b)]) {σ : Sg} {J : Js} {T : Ms} {H : Heap} {locs : List Loc} (S : LSt s D cy ac ad aw σ J T H locs) (kk : ∀ (σ : Sg) (J : Js) (T : Ms) (H : Heap) (locs : List Loc), LSt s D cy ac ad aw σ J T H locs → LWw p l e s m below meth c b H locs (F0 m 883 ls [])) : LWw p l e s m below meth c b H locs (F0 m 672 ls []) := by
  obtain ⟨hx, hb, hml, hown, hts, hX, hbl, hL, hK, hN, hC, hDD⟩ := K
  obtain ⟨hw, hj, hPc, hPm, hS⟩ := S
  have hA : ∀ q : Nat, s.heap.size ≤ q → LA s q := fun _ h => h
  have hbA : ¬ LA s b := Nat.not_le.mpr hbl
  refine lv_aload_n hx hb dL_law_672 rfl (lv_at hl 2 rfl) ?_
  refine lv_aload_n hx hb dL_law_673 rfl (lv_at hl 3 rfl) ?_
  refine lv_iload_n hx hb dL_law_674 rfl (lv_at hl 0 rfl) ?_
  refine lv_iconst (v := nI 1) hx hb dL_law_675 (by decide) ?_
  refine ln_iadd hx hb dL_law_676 ?_
  refine ln_sld hx hb hX hbl hbA hS (i := i + 1) (by omega) (by omega) dL_law_677 ?_
  refine lv_aload_n hx hb dL_law_678 rfl (lv_at hl 3 rfl) ?_
  refine lv_iload_n hx hb dL_law_679 rfl (lv_at hl 0 rfl) ?_
  refine lv_iconst (v := nI 2) hx hb dL_law_680 (by decide) ?_
  refine ln_iadd hx hb dL_law_681 ?_
  refine ln_sld hx hb hX hbl hbA hS (i := i + 2) (by omega) (by omega) dL_law_682 ?_
  refine lv_aload_n hx hb dL_law_683 rfl (lv_at hl 3 rfl) ?_
  refine lv_iload_n hx hb dL_law_684 rfl (lv_at hl 0 rfl) ?_
  refine lv_iconst (v := nI 3) hx hb dL_law_685 (by decide) ?_
  refine ln_iadd hx hb dL_law_686 ?_
  refine ln_sld hx hb hX hbl hbA hS (i := i + 3) (by omega) (by omega) dL_law_687 ?_
  refine lv_aload_n hx hb dL_law_688 rfl (lv_at hl 3 rfl) ?_
  refine lv_iload_n hx hb dL_law_689 rfl (lv_at hl 0 rfl) ?_
  refine lv_iconst (v := nI 4) hx hb dL_law_690 (by decide) ?_
  refine ln_iadd hx hb dL_law_691 ?_
  refine ln_sld hx hb hX hbl hbA hS (i := i + 4) (by omega) (by omega) dL_law_692 ?_
  refine cr_w2 (n := 4) (As := [.int (xs (i + 1)), .int (xs (i + 2)), .int (xs (i + 3)), .int (xs (i + 4))]) (rest := []) ⟨hx, hb, hml, hown, hts⟩ (k_X10_aboard l D cy ac aw σ J (xs (i + 1)) (xs (i + 2)) (xs (i + 3)) (xs (i + 4)) hw hj) gvL_92 (by decide +kernel) ⟨Nat.le_of_ble_eq_true rfl, Nat.le_of_ble_eq_true rfl⟩ hK hN hPc (D_left (hDD σ J σ T)) hS hA hPm (D_dis (hDD σ J σ T)) 0 (cw_c0 cy ac aw σ J) rfl rfl hl.1 rfl (Nat.le_of_ble_eq_true rfl) dL_law_693 ⟨Nat.le_of_ble_eq_true rfl, Nat.le_of_ble_eq_true rfl⟩ (fun r1 J1 H locs hp1 hPc hPm hS => ?_)
  refine lv_aload_n hx hb dL_law_696 rfl (lv_at hl 1 rfl) ?_
  refine lv_aload_n hx hb dL_law_697 rfl (lv_at hl 3 rfl) ?_
  refine lv_iload_n hx hb dL_law_698 rfl (lv_at hl 0 rfl) ?_
  refine lv_iconst (v := nI 1) hx hb dL_law_699 (by decide) ?_
  refine ln_iadd hx hb dL_law_700 ?_
  refine ln_sld hx hb hX hbl hbA hS (i := i + 1) (by omega) (by omega) dL_law_701 ?_
  refine lv_aload_n hx hb dL_law_702 rfl (lv_at hl 3 rfl) ?_
  refine lv_iload_n hx hb dL_law_703 rfl (lv_at hl 0 rfl) ?_
  refine lv_iconst (v := nI 2) hx hb dL_law_704 (by decide) ?_
  refine ln_iadd hx hb dL_law_705 ?_
  refine ln_sld hx hb hX hbl hbA hS (i := i + 2) (by omega) (by omega) dL_law_706 ?_
  refine lv_aload_n hx hb dL_law_707 rfl (lv_at hl 3 rfl) ?_
  refine lv_iload_n hx hb dL_law_708 rfl (lv_at hl 0 rfl) ?_
  refine lv_iconst (v := nI 3) hx hb dL_law_709 (by decide) ?_
  refine ln_iadd hx hb dL_law_710 ?_
  refine ln_sld hx hb hX hbl hbA hS (i := i + 3) (by omega) (by omega) dL_law_711 ?_
  refine lv_aload_n hx hb dL_law_712 rfl (lv_at hl 3 rfl) ?_
  refine lv_iload_n hx hb dL_law_713 rfl (lv_at hl 0 rfl) ?_
  refine lv_iconst (v := nI 4) hx hb dL_law_714 (by decide) ?_
  refine ln_iadd hx hb dL_law_715 ?_
  refine ln_sld hx hb hX hbl hbA hS (i := i + 4) (by omega) (by omega) dL_law_716 ?_
  refine cr_v (n := 4) (As := [.int (xs (i + 1)), .int (xs (i + 2)), .int (xs (i + 3)), .int (xs (i + 4))]) (rest := [.int (r1)]) ⟨hx, hb, hml, hown, hts⟩ (k_X11_aboard l D cy ad σ T (xs (i + 1)) (xs (i + 2)) (xs (i + 3)) (xs (i + 4)) hw) gvL_96 (by decide +kernel) ⟨Nat.le_of_ble_eq_true rfl, Nat.le_of_ble_eq_true rfl⟩ hK hN hPm 0 (mw_c0 cy ad σ T) rfl rfl hl.1 rfl (Nat.le_of_ble_eq_true rfl) dL_law_717 ⟨Nat.le_of_ble_eq_true rfl, Nat.le_of_ble_eq_true rfl⟩ ?_
  refine lv_icmp_eq (tgt := 883) hx hb dL_law_720 (by decide) (fun _ => ?_) (fun h => absurd hp1.1 h)
  exact kk σ J1 T H locs ⟨hw, hp1.2, hPc, hPm, hS⟩
set_option maxHeartbeats 4000000 in
set_option maxRecDepth 100000 in
theorem lc_19 {p : Program} {l : Launch} {e : Env} {s : State} {m : MethodId} {below : List Frame} {meth : Method} {c : Code} {b L : Nat} {xs : Nat → Int32} {D : va_G} {cy : Nat → ClassId} {ac ad aw aS aV aT : Nat → Nat} (K : LK p s m c b L xs D cy ac ad aw aS aV aT) {i : Nat} (hi : i + 5 ≤ L) {ls : Array Slot} (hl : lv_has ls 4 [(3, .int (nI i)), (2, .ref (ad 0)), (1, .ref (ac 0)), (0, .ref b)]) {σ : Sg} {J : Js} {T : Ms} {H : Heap} {locs : List Loc} (S : LSt s D cy ac ad aw σ J T H locs) (kk : ∀ (σ : Sg) (J : Js) (T : Ms) (H : Heap) (locs : List Loc), LSt s D cy ac ad aw σ J T H locs → LWw p l e s m below meth c b H locs (F0 m 883 ls [])) : LWw p l e s m below meth c b H locs (F0 m 725 ls []) := by
  obtain ⟨hx, hb, hml, hown, hts, hX, hbl, hL, hK, hN, hC, hDD⟩ := K
  obtain ⟨hw, hj, hPc, hPm, hS⟩ := S
  have hA : ∀ q : Nat, s.heap.size ≤ q → LA s q := fun _ h => h
  have hbA : ¬ LA s b := Nat.not_le.mpr hbl
  refine lv_aload_n hx hb dL_law_725 rfl (lv_at hl 2 rfl) ?_
  refine lv_aload_n hx hb dL_law_726 rfl (lv_at hl 3 rfl) ?_
  refine lv_iload_n hx hb dL_law_727 rfl (lv_at hl 0 rfl) ?_
  refine lv_iconst (v := nI 1) hx hb dL_law_728 (by decide) ?_
  refine ln_iadd hx hb dL_law_729 ?_
  refine ln_sld hx hb hX hbl hbA hS (i := i + 1) (by omega) (by omega) dL_law_730 ?_
  refine lv_aload_n hx hb dL_law_731 rfl (lv_at hl 3 rfl) ?_
  refine lv_iload_n hx hb dL_law_732 rfl (lv_at hl 0 rfl) ?_
  refine lv_iconst (v := nI 2) hx hb dL_law_733 (by decide) ?_
  refine ln_iadd hx hb dL_law_734 ?_
  refine ln_sld hx hb hX hbl hbA hS (i := i + 2) (by omega) (by omega) dL_law_735 ?_
  refine lv_aload_n hx hb dL_law_736 rfl (lv_at hl 3 rfl) ?_
  refine lv_iload_n hx hb dL_law_737 rfl (lv_at hl 0 rfl) ?_
  refine lv_iconst (v := nI 3) hx hb dL_law_738 (by decide) ?_
  refine ln_iadd hx hb dL_law_739 ?_
  refine ln_sld hx hb hX hbl hbA hS (i := i + 3) (by omega) (by omega) dL_law_740 ?_
  refine cr_w2 (n := 3) (As := [.int (xs (i + 1)), .int (xs (i + 2)), .int (xs (i + 3))]) (rest := []) ⟨hx, hb, hml, hown, hts⟩ (k_X10_fewest l D cy ac aw σ J (xs (i + 1)) (xs (i + 2)) (xs (i + 3)) hw hj) gvL_97 (by decide +kernel) ⟨Nat.le_of_ble_eq_true rfl, Nat.le_of_ble_eq_true rfl⟩ hK hN hPc (D_left (hDD σ J σ T)) hS hA hPm (D_dis (hDD σ J σ T)) 0 (cw_c0 cy ac aw σ J) rfl rfl hl.1 rfl (Nat.le_of_ble_eq_true rfl) dL_law_741 ⟨Nat.le_of_ble_eq_true rfl, Nat.le_of_ble_eq_true rfl⟩ (fun r1 J1 H locs hp1 hPc hPm hS => ?_)
  refine lv_aload_n hx hb dL_law_744 rfl (lv_at hl 1 rfl) ?_
  refine lv_aload_n hx hb dL_law_745 rfl (lv_at hl 3 rfl) ?_
  refine lv_iload_n hx hb dL_law_746 rfl (lv_at hl 0 rfl) ?_
  refine lv_iconst (v := nI 1) hx hb dL_law_747 (by decide) ?_
  refine ln_iadd hx hb dL_law_748 ?_
  refine ln_sld hx hb hX hbl hbA hS (i := i + 1) (by omega) (by omega) dL_law_749 ?_
  refine lv_aload_n hx hb dL_law_750 rfl (lv_at hl 3 rfl) ?_
  refine lv_iload_n hx hb dL_law_751 rfl (lv_at hl 0 rfl) ?_
  refine lv_iconst (v := nI 2) hx hb dL_law_752 (by decide) ?_
  refine ln_iadd hx hb dL_law_753 ?_
  refine ln_sld hx hb hX hbl hbA hS (i := i + 2) (by omega) (by omega) dL_law_754 ?_
  refine lv_aload_n hx hb dL_law_755 rfl (lv_at hl 3 rfl) ?_
  refine lv_iload_n hx hb dL_law_756 rfl (lv_at hl 0 rfl) ?_
  refine lv_iconst (v := nI 3) hx hb dL_law_757 (by decide) ?_
  refine ln_iadd hx hb dL_law_758 ?_
  refine ln_sld hx hb hX hbl hbA hS (i := i + 3) (by omega) (by omega) dL_law_759 ?_
  refine cr_w2 (n := 3) (As := [.int (xs (i + 1)), .int (xs (i + 2)), .int (xs (i + 3))]) (rest := [.int (r1)]) ⟨hx, hb, hml, hown, hts⟩ (k_X11_fewest l D cy ad σ T (xs (i + 1)) (xs (i + 2)) (xs (i + 3)) hw) gvL_100 (by decide +kernel) ⟨Nat.le_of_ble_eq_true rfl, Nat.le_of_ble_eq_true rfl⟩ hK hN hPm (D_right (hDD σ J1 σ T)) hS hA hPc (fun i1 j1 p1 q1 h1 h2 => (D_dis (hDD σ J1 σ T) j1 i1 q1 p1 h2 h1).symm) 0 (mw_c0 cy ad σ T) rfl rfl hl.1 rfl (Nat.le_of_ble_eq_true rfl) dL_law_760 ⟨Nat.le_of_ble_eq_true rfl, Nat.le_of_ble_eq_true rfl⟩ (fun r2 T1 H locs hp2 hPm hPc hS => ?_)
  refine lv_icmp_eq (tgt := 883) hx hb dL_law_763 (by decide) (fun _ => ?_) (fun h => absurd (hp1.1.trans (Eq.symm hp2)) h)
  exact kk σ J1 T1 H locs ⟨hw, hp1.2, hPc, hPm, hS⟩
set_option maxHeartbeats 4000000 in
set_option maxRecDepth 100000 in
theorem lc_20 {p : Program} {l : Launch} {e : Env} {s : State} {m : MethodId} {below : List Frame} {meth : Method} {c : Code} {b L : Nat} {xs : Nat → Int32} {D : va_G} {cy : Nat → ClassId} {ac ad aw aS aV aT : Nat → Nat} (K : LK p s m c b L xs D cy ac ad aw aS aV aT) {i : Nat} (hi : i + 5 ≤ L) {ls : Array Slot} (hl : lv_has ls 4 [(3, .int (nI i)), (2, .ref (ad 0)), (1, .ref (ac 0)), (0, .ref b)]) {σ : Sg} {J : Js} {T : Ms} {H : Heap} {locs : List Loc} (S : LSt s D cy ac ad aw σ J T H locs) (kk : ∀ (σ : Sg) (J : Js) (T : Ms) (H : Heap) (locs : List Loc), LSt s D cy ac ad aw σ J T H locs → LWw p l e s m below meth c b H locs (F0 m 883 ls [])) : LWw p l e s m below meth c b H locs (F0 m 768 ls []) := by
  obtain ⟨hx, hb, hml, hown, hts, hX, hbl, hL, hK, hN, hC, hDD⟩ := K
  obtain ⟨hw, hj, hPc, hPm, hS⟩ := S
  have hA : ∀ q : Nat, s.heap.size ≤ q → LA s q := fun _ h => h
  have hbA : ¬ LA s b := Nat.not_le.mpr hbl
  refine lv_aload_n hx hb dL_law_768 rfl (lv_at hl 2 rfl) ?_
  refine lv_aload_n hx hb dL_law_769 rfl (lv_at hl 3 rfl) ?_
  refine lv_iload_n hx hb dL_law_770 rfl (lv_at hl 0 rfl) ?_
  refine lv_iconst (v := nI 1) hx hb dL_law_771 (by decide) ?_
  refine ln_iadd hx hb dL_law_772 ?_
  refine ln_sld hx hb hX hbl hbA hS (i := i + 1) (by omega) (by omega) dL_law_773 ?_
  refine lv_aload_n hx hb dL_law_774 rfl (lv_at hl 3 rfl) ?_
  refine lv_iload_n hx hb dL_law_775 rfl (lv_at hl 0 rfl) ?_
  refine lv_iconst (v := nI 2) hx hb dL_law_776 (by decide) ?_
  refine ln_iadd hx hb dL_law_777 ?_
  refine ln_sld hx hb hX hbl hbA hS (i := i + 2) (by omega) (by omega) dL_law_778 ?_
  refine cr_w2 (n := 2) (As := [.int (xs (i + 1)), .int (xs (i + 2))]) (rest := []) ⟨hx, hb, hml, hown, hts⟩ (k_X10_soonest l D cy ac aw σ J (xs (i + 1)) (xs (i + 2)) hw hj) gvL_101 (by decide +kernel) ⟨Nat.le_of_ble_eq_true rfl, Nat.le_of_ble_eq_true rfl⟩ hK hN hPc (D_left (hDD σ J σ T)) hS hA hPm (D_dis (hDD σ J σ T)) 0 (cw_c0 cy ac aw σ J) rfl rfl hl.1 rfl (Nat.le_of_ble_eq_true rfl) dL_law_779 ⟨Nat.le_of_ble_eq_true rfl, Nat.le_of_ble_eq_true rfl⟩ (fun r1 J1 H locs hp1 hPc hPm hS => ?_)
  refine lv_aload_n hx hb dL_law_782 rfl (lv_at hl 1 rfl) ?_
  refine lv_aload_n hx hb dL_law_783 rfl (lv_at hl 3 rfl) ?_
  refine lv_iload_n hx hb dL_law_784 rfl (lv_at hl 0 rfl) ?_
  refine lv_iconst (v := nI 1) hx hb dL_law_785 (by decide) ?_
  refine ln_iadd hx hb dL_law_786 ?_
  refine ln_sld hx hb hX hbl hbA hS (i := i + 1) (by omega) (by omega) dL_law_787 ?_
  refine lv_aload_n hx hb dL_law_788 rfl (lv_at hl 3 rfl) ?_
  refine lv_iload_n hx hb dL_law_789 rfl (lv_at hl 0 rfl) ?_
  refine lv_iconst (v := nI 2) hx hb dL_law_790 (by decide) ?_
  refine ln_iadd hx hb dL_law_791 ?_
  refine ln_sld hx hb hX hbl hbA hS (i := i + 2) (by omega) (by omega) dL_law_792 ?_
  refine cr_w2 (n := 2) (As := [.int (xs (i + 1)), .int (xs (i + 2))]) (rest := [.int (r1)]) ⟨hx, hb, hml, hown, hts⟩ (k_X11_soonest l D cy ad σ T (xs (i + 1)) (xs (i + 2)) hw) gvL_104 (by decide +kernel) ⟨Nat.le_of_ble_eq_true rfl, Nat.le_of_ble_eq_true rfl⟩ hK hN hPm (D_right (hDD σ J1 σ T)) hS hA hPc (fun i1 j1 p1 q1 h1 h2 => (D_dis (hDD σ J1 σ T) j1 i1 q1 p1 h2 h1).symm) 0 (mw_c0 cy ad σ T) rfl rfl hl.1 rfl (Nat.le_of_ble_eq_true rfl) dL_law_793 ⟨Nat.le_of_ble_eq_true rfl, Nat.le_of_ble_eq_true rfl⟩ (fun r2 T1 H locs hp2 hPm hPc hS => ?_)
  refine lv_icmp_eq (tgt := 883) hx hb dL_law_796 (by decide) (fun _ => ?_) (fun h => absurd (a_soon_one hp1.1 hp2) h)
  exact kk σ J1 T1 H locs ⟨hw, hp1.2, hPc, hPm, hS⟩
set_option maxHeartbeats 4000000 in
set_option maxRecDepth 100000 in
theorem lc_21 {p : Program} {l : Launch} {e : Env} {s : State} {m : MethodId} {below : List Frame} {meth : Method} {c : Code} {b L : Nat} {xs : Nat → Int32} {D : va_G} {cy : Nat → ClassId} {ac ad aw aS aV aT : Nat → Nat} (K : LK p s m c b L xs D cy ac ad aw aS aV aT) {i : Nat} (hi : i + 5 ≤ L) {ls : Array Slot} (hl : lv_has ls 4 [(3, .int (nI i)), (2, .ref (ad 0)), (1, .ref (ac 0)), (0, .ref b)]) {σ : Sg} {J : Js} {T : Ms} {H : Heap} {locs : List Loc} (S : LSt s D cy ac ad aw σ J T H locs) (kk : ∀ (σ : Sg) (J : Js) (T : Ms) (H : Heap) (locs : List Loc), LSt s D cy ac ad aw σ J T H locs → LWw p l e s m below meth c b H locs (F0 m 883 ls [])) : LWw p l e s m below meth c b H locs (F0 m 801 ls []) := by
  obtain ⟨hx, hb, hml, hown, hts, hX, hbl, hL, hK, hN, hC, hDD⟩ := K
  obtain ⟨hw, hj, hPc, hPm, hS⟩ := S
  have hA : ∀ q : Nat, s.heap.size ≤ q → LA s q := fun _ h => h
  have hbA : ¬ LA s b := Nat.not_le.mpr hbl
  refine lv_aload_n hx hb dL_law_801 rfl (lv_at hl 2 rfl) ?_
  refine lv_aload_n hx hb dL_law_802 rfl (lv_at hl 3 rfl) ?_
  refine lv_iload_n hx hb dL_law_803 rfl (lv_at hl 0 rfl) ?_
  refine lv_iconst (v := nI 1) hx hb dL_law_804 (by decide) ?_
  refine ln_iadd hx hb dL_law_805 ?_
  refine ln_sld hx hb hX hbl hbA hS (i := i + 1) (by omega) (by omega) dL_law_806 ?_
  refine lv_aload_n hx hb dL_law_807 rfl (lv_at hl 3 rfl) ?_
  refine lv_iload_n hx hb dL_law_808 rfl (lv_at hl 0 rfl) ?_
  refine lv_iconst (v := nI 2) hx hb dL_law_809 (by decide) ?_
  refine ln_iadd hx hb dL_law_810 ?_
  refine ln_sld hx hb hX hbl hbA hS (i := i + 2) (by omega) (by omega) dL_law_811 ?_
  refine cr_w2 (n := 2) (As := [.int (xs (i + 1)), .int (xs (i + 2))]) (rest := []) ⟨hx, hb, hml, hown, hts⟩ (k_X10_row l D cy ac aw σ J (xs (i + 1)) (xs (i + 2)) hw hj) gvL_105 (by decide +kernel) ⟨Nat.le_of_ble_eq_true rfl, Nat.le_of_ble_eq_true rfl⟩ hK hN hPc (D_left (hDD σ J σ T)) hS hA hPm (D_dis (hDD σ J σ T)) 0 (cw_c0 cy ac aw σ J) rfl rfl hl.1 rfl (Nat.le_of_ble_eq_true rfl) dL_law_812 ⟨Nat.le_of_ble_eq_true rfl, Nat.le_of_ble_eq_true rfl⟩ (fun r1 J1 H locs hp1 hPc hPm hS => ?_)
  refine lv_aload_n hx hb dL_law_815 rfl (lv_at hl 1 rfl) ?_
  refine lv_aload_n hx hb dL_law_816 rfl (lv_at hl 3 rfl) ?_
  refine lv_iload_n hx hb dL_law_817 rfl (lv_at hl 0 rfl) ?_
  refine lv_iconst (v := nI 1) hx hb dL_law_818 (by decide) ?_
  refine ln_iadd hx hb dL_law_819 ?_
  refine ln_sld hx hb hX hbl hbA hS (i := i + 1) (by omega) (by omega) dL_law_820 ?_
  refine lv_aload_n hx hb dL_law_821 rfl (lv_at hl 3 rfl) ?_
  refine lv_iload_n hx hb dL_law_822 rfl (lv_at hl 0 rfl) ?_
  refine lv_iconst (v := nI 2) hx hb dL_law_823 (by decide) ?_
  refine ln_iadd hx hb dL_law_824 ?_
  refine ln_sld hx hb hX hbl hbA hS (i := i + 2) (by omega) (by omega) dL_law_825 ?_
  refine cr_w2 (n := 2) (As := [.int (xs (i + 1)), .int (xs (i + 2))]) (rest := [.int (r1)]) ⟨hx, hb, hml, hown, hts⟩ (k_X11_row l D cy ad σ T (xs (i + 1)) (xs (i + 2)) hw) gvL_108 (by decide +kernel) ⟨Nat.le_of_ble_eq_true rfl, Nat.le_of_ble_eq_true rfl⟩ hK hN hPm (D_right (hDD (n_row σ (xs (i + 1)) (xs (i + 2))) J1 σ T)) hS hA hPc (fun i1 j1 p1 q1 h1 h2 => (D_dis (hDD (n_row σ (xs (i + 1)) (xs (i + 2))) J1 σ T) j1 i1 q1 p1 h2 h1).symm) 0 (mw_c0 cy ad σ T) rfl rfl hl.1 rfl (Nat.le_of_ble_eq_true rfl) dL_law_826 ⟨Nat.le_of_ble_eq_true rfl, Nat.le_of_ble_eq_true rfl⟩ (fun r2 T1 H locs hp2 hPm hPc hS => ?_)
  refine lv_icmp_eq (tgt := 883) hx hb dL_law_829 (by decide) (fun _ => ?_) (fun h => absurd (hp1.1.trans (Eq.symm hp2)) h)
  exact kk (n_row σ (xs (i + 1)) (xs (i + 2))) J1 T1 H locs ⟨wn_row hw _ _, hp1.2, hPc, hPm, hS⟩
set_option maxHeartbeats 4000000 in
set_option maxRecDepth 100000 in
theorem lc_22 {p : Program} {l : Launch} {e : Env} {s : State} {m : MethodId} {below : List Frame} {meth : Method} {c : Code} {b L : Nat} {xs : Nat → Int32} {D : va_G} {cy : Nat → ClassId} {ac ad aw aS aV aT : Nat → Nat} (K : LK p s m c b L xs D cy ac ad aw aS aV aT) {i : Nat} (hi : i + 5 ≤ L) {ls : Array Slot} (hl : lv_has ls 4 [(3, .int (nI i)), (2, .ref (ad 0)), (1, .ref (ac 0)), (0, .ref b)]) {σ : Sg} {J : Js} {T : Ms} {H : Heap} {locs : List Loc} (S : LSt s D cy ac ad aw σ J T H locs) (kk : ∀ (σ : Sg) (J : Js) (T : Ms) (H : Heap) (locs : List Loc), LSt s D cy ac ad aw σ J T H locs → LWw p l e s m below meth c b H locs (F0 m 883 ls [])) : LWw p l e s m below meth c b H locs (F0 m 834 ls []) := by
  obtain ⟨hx, hb, hml, hown, hts, hX, hbl, hL, hK, hN, hC, hDD⟩ := K
  obtain ⟨hw, hj, hPc, hPm, hS⟩ := S
  have hA : ∀ q : Nat, s.heap.size ≤ q → LA s q := fun _ h => h
  have hbA : ¬ LA s b := Nat.not_le.mpr hbl
  refine lv_aload_n hx hb dL_law_834 rfl (lv_at hl 2 rfl) ?_
  refine cr_w2 (n := 0) (As := []) (rest := []) ⟨hx, hb, hml, hown, hts⟩ (k_X10_burn l D cy ac aw σ J  hj) gvL_109 (by decide +kernel) ⟨Nat.le_of_ble_eq_true rfl, Nat.le_of_ble_eq_true rfl⟩ hK hN hPc (D_left (hDD σ J σ T)) hS hA hPm (D_dis (hDD σ J σ T)) 0 (cw_c0 cy ac aw σ J) rfl rfl hl.1 rfl (Nat.le_of_ble_eq_true rfl) dL_law_835 ⟨Nat.le_of_ble_eq_true rfl, Nat.le_of_ble_eq_true rfl⟩ (fun r1 J1 H locs hp1 hPc hPm hS => ?_)
  refine lv_aload_n hx hb dL_law_838 rfl (lv_at hl 1 rfl) ?_
  refine cr_w2 (n := 0) (As := []) (rest := [.int (r1)]) ⟨hx, hb, hml, hown, hts⟩ (k_X11_burn l D cy ad σ T  ) gvL_112 (by decide +kernel) ⟨Nat.le_of_ble_eq_true rfl, Nat.le_of_ble_eq_true rfl⟩ hK hN hPm (D_right (hDD (n_burn σ) J1 σ T)) hS hA hPc (fun i1 j1 p1 q1 h1 h2 => (D_dis (hDD (n_burn σ) J1 σ T) j1 i1 q1 p1 h2 h1).symm) 0 (mw_c0 cy ad σ T) rfl rfl hl.1 rfl (Nat.le_of_ble_eq_true rfl) dL_law_839 ⟨Nat.le_of_ble_eq_true rfl, Nat.le_of_ble_eq_true rfl⟩ (fun r2 T1 H locs hp2 hPm hPc hS => ?_)
  refine lv_icmp_eq (tgt := 883) hx hb dL_law_842 (by decide) (fun _ => ?_) (fun h => absurd (hp1.1.trans (Eq.symm hp2)) h)
  exact kk (n_burn σ) J1 T1 H locs ⟨wn_burn hw, hp1.2, hPc, hPm, hS⟩
set_option maxHeartbeats 4000000 in
set_option maxRecDepth 100000 in
theorem lc_23 {p : Program} {l : Launch} {e : Env} {s : State} {m : MethodId} {below : List Frame} {meth : Method} {c : Code} {b L : Nat} {xs : Nat → Int32} {D : va_G} {cy : Nat → ClassId} {ac ad aw aS aV aT : Nat → Nat} (K : LK p s m c b L xs D cy ac ad aw aS aV aT) {i : Nat} (hi : i + 5 ≤ L) {ls : Array Slot} (hl : lv_has ls 4 [(3, .int (nI i)), (2, .ref (ad 0)), (1, .ref (ac 0)), (0, .ref b)]) {σ : Sg} {J : Js} {T : Ms} {H : Heap} {locs : List Loc} (S : LSt s D cy ac ad aw σ J T H locs) (kk : ∀ (σ : Sg) (J : Js) (T : Ms) (H : Heap) (locs : List Loc), LSt s D cy ac ad aw σ J T H locs → LWw p l e s m below meth c b H locs (F0 m 883 ls [])) : LWw p l e s m below meth c b H locs (F0 m 847 ls []) := by
  obtain ⟨hx, hb, hml, hown, hts, hX, hbl, hL, hK, hN, hC, hDD⟩ := K
  obtain ⟨hw, hj, hPc, hPm, hS⟩ := S
  have hA : ∀ q : Nat, s.heap.size ≤ q → LA s q := fun _ h => h
  have hbA : ¬ LA s b := Nat.not_le.mpr hbl
  refine lv_aload_n hx hb dL_law_847 rfl (lv_at hl 2 rfl) ?_
  refine cr_v (n := 0) (As := []) (rest := []) ⟨hx, hb, hml, hown, hts⟩ (k_X10_judge l D cy ac aw σ J  hw hj) gvL_113 (by decide +kernel) ⟨Nat.le_of_ble_eq_true rfl, Nat.le_of_ble_eq_true rfl⟩ hK hN hPc 0 (cw_c0 cy ac aw σ J) rfl rfl hl.1 rfl (Nat.le_of_ble_eq_true rfl) dL_law_848 ⟨Nat.le_of_ble_eq_true rfl, Nat.le_of_ble_eq_true rfl⟩ ?_
  refine lv_aload_n hx hb dL_law_851 rfl (lv_at hl 1 rfl) ?_
  refine cr_w2 (n := 0) (As := []) (rest := [.int (a_judge σ )]) ⟨hx, hb, hml, hown, hts⟩ (k_X11_judge l D cy ad σ T  hw) gvL_116 (by decide +kernel) ⟨Nat.le_of_ble_eq_true rfl, Nat.le_of_ble_eq_true rfl⟩ hK hN hPm (D_right (hDD σ J σ T)) hS hA hPc (fun i1 j1 p1 q1 h1 h2 => (D_dis (hDD σ J σ T) j1 i1 q1 p1 h2 h1).symm) 0 (mw_c0 cy ad σ T) rfl rfl hl.1 rfl (Nat.le_of_ble_eq_true rfl) dL_law_852 ⟨Nat.le_of_ble_eq_true rfl, Nat.le_of_ble_eq_true rfl⟩ (fun r2 T1 H locs hp2 hPm hPc hS => ?_)
  refine lv_icmp_eq (tgt := 883) hx hb dL_law_855 (by decide) (fun _ => ?_) (fun h => absurd (Eq.symm hp2) h)
  exact kk σ J T1 H locs ⟨hw, hj, hPc, hPm, hS⟩
set_option maxHeartbeats 4000000 in
set_option maxRecDepth 100000 in
theorem lc_24 {p : Program} {l : Launch} {e : Env} {s : State} {m : MethodId} {below : List Frame} {meth : Method} {c : Code} {b L : Nat} {xs : Nat → Int32} {D : va_G} {cy : Nat → ClassId} {ac ad aw aS aV aT : Nat → Nat} (K : LK p s m c b L xs D cy ac ad aw aS aV aT) {i : Nat} (hi : i + 5 ≤ L) {ls : Array Slot} (hl : lv_has ls 4 [(3, .int (nI i)), (2, .ref (ad 0)), (1, .ref (ac 0)), (0, .ref b)]) {σ : Sg} {J : Js} {T : Ms} {H : Heap} {locs : List Loc} (S : LSt s D cy ac ad aw σ J T H locs) (kk : ∀ (σ : Sg) (J : Js) (T : Ms) (H : Heap) (locs : List Loc), LSt s D cy ac ad aw σ J T H locs → LWw p l e s m below meth c b H locs (F0 m 883 ls [])) : LWw p l e s m below meth c b H locs (F0 m 860 ls []) := by
  obtain ⟨hx, hb, hml, hown, hts, hX, hbl, hL, hK, hN, hC, hDD⟩ := K
  obtain ⟨hw, hj, hPc, hPm, hS⟩ := S
  have hA : ∀ q : Nat, s.heap.size ≤ q → LA s q := fun _ h => h
  have hbA : ¬ LA s b := Nat.not_le.mpr hbl
  refine lv_aload_n hx hb dL_law_860 rfl (lv_at hl 2 rfl) ?_
  refine lv_aload_n hx hb dL_law_861 rfl (lv_at hl 3 rfl) ?_
  refine lv_iload_n hx hb dL_law_862 rfl (lv_at hl 0 rfl) ?_
  refine lv_iconst (v := nI 1) hx hb dL_law_863 (by decide) ?_
  refine ln_iadd hx hb dL_law_864 ?_
  refine ln_sld hx hb hX hbl hbA hS (i := i + 1) (by omega) (by omega) dL_law_865 ?_
  refine cr_v (n := 1) (As := [.int (xs (i + 1))]) (rest := []) ⟨hx, hb, hml, hown, hts⟩ (k_X10_count l D cy ac aw σ J (xs (i + 1)) hw) gvL_117 (by decide +kernel) ⟨Nat.le_of_ble_eq_true rfl, Nat.le_of_ble_eq_true rfl⟩ hK hN hPc 0 (cw_c0 cy ac aw σ J) rfl rfl hl.1 rfl (Nat.le_of_ble_eq_true rfl) dL_law_866 ⟨Nat.le_of_ble_eq_true rfl, Nat.le_of_ble_eq_true rfl⟩ ?_
  refine lv_aload_n hx hb dL_law_869 rfl (lv_at hl 1 rfl) ?_
  refine lv_aload_n hx hb dL_law_870 rfl (lv_at hl 3 rfl) ?_
  refine lv_iload_n hx hb dL_law_871 rfl (lv_at hl 0 rfl) ?_
  refine lv_iconst (v := nI 1) hx hb dL_law_872 (by decide) ?_
  refine ln_iadd hx hb dL_law_873 ?_
  refine ln_sld hx hb hX hbl hbA hS (i := i + 1) (by omega) (by omega) dL_law_874 ?_
  refine cr_v (n := 1) (As := [.int (xs (i + 1))]) (rest := [.int (a_count σ (xs (i + 1)))]) ⟨hx, hb, hml, hown, hts⟩ (k_X11_count l D cy ad σ T (xs (i + 1)) ) gvL_120 (by decide +kernel) ⟨Nat.le_of_ble_eq_true rfl, Nat.le_of_ble_eq_true rfl⟩ hK hN hPm 0 (mw_c0 cy ad σ T) rfl rfl hl.1 rfl (Nat.le_of_ble_eq_true rfl) dL_law_875 ⟨Nat.le_of_ble_eq_true rfl, Nat.le_of_ble_eq_true rfl⟩ ?_
  refine lv_icmp_eq (tgt := 883) hx hb dL_law_878 (by decide) (fun _ => ?_) (fun h => absurd rfl h)
  exact kk σ J T H locs ⟨hw, hj, hPc, hPm, hS⟩
