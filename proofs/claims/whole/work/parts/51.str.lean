theorem ln_31 {i : Nat} (hi : i < 18) : lenS.getD i 0 < 2 ^ 31 := by
  have h : ∀ i, i < 18 → lenS.getD i 0 < 2 ^ 31 := by decide +kernel
  exact h i hi
theorem ln_9 {i : Nat} (hi : i < 18) : ln_ i ≤ 7 := by
  have h : ∀ i, i < 18 → ln_ i ≤ 7 := by decide +kernel
  exact h i hi
theorem byt_n {i j : Nat} (hi : i < 18) (hj : j < ln_ i) : (bytS.getD i []).getD j 0 = nI (bn_ i j) := by
  have h : ∀ i, i < 18 → ∀ j, j < 8 → j < ln_ i → (bytS.getD i []).getD j 0 = nI (bn_ i j) := by decide +kernel
  exact h i hi j (by have := ln_9 hi; omega) hj
theorem bn_lt {i j : Nat} (hi : i < 18) (hj : j < ln_ i) : 65 ≤ bn_ i j ∧ bn_ i j ≤ 122 := by
  have h : ∀ i, i < 18 → ∀ j, j < 8 → j < ln_ i → 65 ≤ bn_ i j ∧ bn_ i j ≤ 122 := by decide +kernel
  exact h i hi j (by have := ln_9 hi; omega) hj
theorem i2c_n {x : Nat} (h : x ≤ 122) : ((nI (x &&& 255)).toUInt32 % 65536).toInt32 = nI x := by
  have hh : ∀ x, x < 123 → ((nI (x &&& 255)).toUInt32 % 65536).toInt32 = nI x := by decide +kernel
  exact hh x (by omega)
theorem i2b_n {x : Nat} (h : x < 128) : (nI x).toInt8.toInt32 = nI x := by
  have hh : ∀ x, x < 128 → (nI x).toInt8.toInt32 = nI x := by decide +kernel
  exact hh x h
theorem nar_c {x : Nat} (h : x ≤ 122) : narrow .char (.int (nI x)) = .int (nI x) := by
  have hh : ∀ x, x < 123 → narrow .char (.int (nI x)) = .int (nI x) := by decide +kernel
  exact hh x (by omega)
theorem nar_b0 : narrow .byte (.int (nI 0)) = .int (nI 0) := by decide
set_option maxHeartbeats 4000000 in
set_option maxRecDepth 100000 in
theorem k_J0_coder_7d493 (l : Launch) (aw aS aV aT : Nat → Nat) (i : Nat) (hi : i < 18) : MC l yJ0_coder_7d493 qJ0_coder_7d493 0 [.ref (aS i)] aw aS aV aT (nI 0) := by
  refine Met.ofW (cc := cJ0_coder_7d493) (maxL := 1) (ret := (some .byte)) (by decide) rfl ?_
  intro p e s m args below meth c s₁ B hml hv
  obtain ⟨rfl, hC⟩ := hv
  have hx := B.exec
  have hb := B.bytes
  have hr := B.returns
  have hlocks := B.notSynchronized
  have hts : ∀ cq ∈ tg, cq.before ([.ref (aS i)] : List Value).toArray s = true := fun cq h => atoms_spec (ws := qJ0_coder_7d493) B.pre cq (List.mem_cons_of_mem _ h)
  have hown : s.vm.findClass RJ0 = some m.cls := findClass_of_methodNamed B.named
  have hS : va_S (fun _ => False) s.heap s.heap [] := va_S.rf
  have hl := lv_entry ([.ref (aS i)]) (n := 1) (Nat.le_of_ble_eq_true rfl)
  rw [lg_entry_eq]
  generalize (lg_sl ([.ref (aS i)]) ++ List.replicate (1 - (lg_sl ([.ref (aS i)])).length) Slot.unset).toArray = ls at hl ⊢
  have hl : lv_has ls 1 [(0, .ref (aS i))] := hl
  refine va_gets hx hb hC.2.2.2.2.2.2.2.1 hS hown (hts _ flJ0_38) (fun _ h => h) dJ0_coder_7d493_0 ?_
  refine lv_if_eq (tgt := 13) hx hb dJ0_coder_7d493_3 (by decide) (fun c => absurd c (by decide)) (fun _ => ?_)
  refine lv_aload_n hx hb dJ0_coder_7d493_6 rfl (lv_at hl 0 rfl) ?_
  refine vk_getf (v := .int (nI (0))) hx hb (hC.2.2.1.1 i (by omega)).2.1 hS hown (hts _ flJ0_15) (fun _ h => h) dJ0_coder_7d493_7 ?_
  refine lv_goto (tgt := 14) hx hb dJ0_coder_7d493_10 (by decide) ?_
  exact rt_y hx hb hr hlocks nar_b0 (rfl) dJ0_coder_7d493_14
set_option maxHeartbeats 4000000 in
set_option maxRecDepth 100000 in
theorem k_J0_isLatin1_aae02 (l : Launch) (aw aS aV aT : Nat → Nat) (i : Nat) (hi : i < 18) : MC l yJ0_isLatin1_aae02 qJ0_isLatin1_aae02 0 [.ref (aS i)] aw aS aV aT (bI true) := by
  refine Met.ofW (cc := cJ0_isLatin1_aae02) (maxL := 1) (ret := (some .boolean)) (by decide) rfl ?_
  intro p e s m args below meth c s₁ B hml hv
  obtain ⟨rfl, hC⟩ := hv
  have hx := B.exec
  have hb := B.bytes
  have hr := B.returns
  have hlocks := B.notSynchronized
  have hts : ∀ cq ∈ tg, cq.before ([.ref (aS i)] : List Value).toArray s = true := fun cq h => atoms_spec (ws := qJ0_isLatin1_aae02) B.pre cq (List.mem_cons_of_mem _ h)
  have hown : s.vm.findClass RJ0 = some m.cls := findClass_of_methodNamed B.named
  have hS : va_S (fun _ => False) s.heap s.heap [] := va_S.rf
  have hl := lv_entry ([.ref (aS i)]) (n := 1) (Nat.le_of_ble_eq_true rfl)
  rw [lg_entry_eq]
  generalize (lg_sl ([.ref (aS i)]) ++ List.replicate (1 - (lg_sl ([.ref (aS i)])).length) Slot.unset).toArray = ls at hl ⊢
  have hl : lv_has ls 1 [(0, .ref (aS i))] := hl
  refine va_gets hx hb hC.2.2.2.2.2.2.2.1 hS hown (hts _ flJ0_38) (fun _ h => h) dJ0_isLatin1_aae02_0 ?_
  refine lv_if_eq (tgt := 17) hx hb dJ0_isLatin1_aae02_3 (by decide) (fun c => absurd c (by decide)) (fun _ => ?_)
  refine lv_aload_n hx hb dJ0_isLatin1_aae02_6 rfl (lv_at hl 0 rfl) ?_
  refine vk_getf (v := .int (nI (0))) hx hb (hC.2.2.1.1 i (by omega)).2.1 hS hown (hts _ flJ0_15) (fun _ h => h) dJ0_isLatin1_aae02_7 ?_
  refine lv_if_ne (tgt := 17) hx hb dJ0_isLatin1_aae02_10 (by decide) (fun c => absurd rfl c) (fun _ => ?_)
  refine lv_iconst (v := nI 1) hx hb dJ0_isLatin1_aae02_13 (by decide) ?_
  refine lv_goto (tgt := 18) hx hb dJ0_isLatin1_aae02_14 (by decide) ?_
  refine ln_eq bI_t.symm ?_
  exact rt_z hx hb hr hlocks (rfl) dJ0_isLatin1_aae02_18
set_option maxHeartbeats 4000000 in
set_option maxRecDepth 100000 in
theorem k_J0_length_8abf5 (l : Launch) (aw aS aV aT : Nat → Nat) (i : Nat) (hi : i < 18) : MC l yJ0_length_8abf5 qJ0_length_8abf5 1 [.ref (aS i)] aw aS aV aT (nI (ln_ i)) := by
  refine Met.ofW (cc := cJ0_length_8abf5) (maxL := 1) (ret := (some .int)) (by decide) rfl ?_
  intro p e s m args below meth c s₁ B hml hv
  obtain ⟨rfl, hC⟩ := hv
  have hx := B.exec
  have hb := B.bytes
  have hr := B.returns
  have hlocks := B.notSynchronized
  have hts : ∀ cq ∈ tg, cq.before ([.ref (aS i)] : List Value).toArray s = true := fun cq h => atoms_spec (ws := qJ0_length_8abf5) B.pre cq (List.mem_cons_of_mem _ h)
  have hown : s.vm.findClass RJ0 = some m.cls := findClass_of_methodNamed B.named
  have hS : va_S (fun _ => False) s.heap s.heap [] := va_S.rf
  have hl := lv_entry ([.ref (aS i)]) (n := 1) (Nat.le_of_ble_eq_true rfl)
  rw [lg_entry_eq]
  generalize (lg_sl ([.ref (aS i)]) ++ List.replicate (1 - (lg_sl ([.ref (aS i)])).length) Slot.unset).toArray = ls at hl ⊢
  have hl : lv_has ls 1 [(0, .ref (aS i))] := hl
  have hl9 := ln_9 hi
  refine lv_aload_n hx hb dJ0_length_8abf5_0 rfl (lv_at hl 0 rfl) ?_
  refine vk_getf (v := .ref (aV i)) hx hb (hC.2.2.1.1 i (by omega)).2.2.1 hS hown (hts _ flJ0_9) (fun _ h => h) dJ0_length_8abf5_1 ?_
  refine va_tlen (v := (nI (ln_ i))) hx hb (hC.2.2.1.1 i (by omega)).2.2.2 hS rfl dJ0_length_8abf5_4 ?_
  refine lv_aload_n hx hb dJ0_length_8abf5_5 rfl (lv_at hl 0 rfl) ?_
  refine kc_v (n := 0) (As := []) (rest := [.int (nI (ln_ i))]) ⟨hx, hb, hml, hown, hts⟩ (k_J0_coder_7d493 l aw aS aV aT i (by omega)) gvJ0_335 (by decide +kernel) ⟨Nat.le_of_ble_eq_true rfl, Nat.le_of_ble_eq_true rfl⟩ hC hS (hC.srecv (by omega) hS) rfl hl.1 rfl (Nat.le_of_ble_eq_true rfl) dJ0_length_8abf5_6 ⟨Nat.zero_le _, Nat.zero_le _⟩ ?_
  refine ln_ishr hx hb dJ0_length_8abf5_9 (by omega) (by omega) ?_
  exact rt_i hx hb hr hlocks (congrArg nI (by rw [Nat.pow_zero, Nat.div_one])) dJ0_length_8abf5_10
set_option maxHeartbeats 4000000 in
set_option maxRecDepth 100000 in
theorem k_J3_ck_n (l : Launch) (aw aS aV aT : Nat → Nat) (j k : Nat)  (hj : j < k) (hk : k < 2 ^ 31) : MC l yJ3_checkIndex_8e157 qJ3_checkIndex_8e157 0 [.int (nI (j)), .int (nI (k)), .null] aw aS aV aT (nI j) := by
  refine Met.ofW (cc := cJ3_checkIndex_8e157) (maxL := 3) (ret := (some .int)) (by decide) rfl ?_
  intro p e s m args below meth c s₁ B hml hv
  obtain ⟨rfl, hC⟩ := hv
  have hx := B.exec
  have hb := B.bytes
  have hr := B.returns
  have hlocks := B.notSynchronized
  have hts : ∀ cq ∈ tg, cq.before ([.int (nI (j)), .int (nI (k)), .null] : List Value).toArray s = true := fun cq h => atoms_spec (ws := qJ3_checkIndex_8e157) B.pre cq (List.mem_cons_of_mem _ h)
  have hown : s.vm.findClass RJ3 = some m.cls := findClass_of_methodNamed B.named
  have hS : va_S (fun _ => False) s.heap s.heap [] := va_S.rf
  have hl := lv_entry ([.int (nI (j)), .int (nI (k)), .null]) (n := 3) (Nat.le_of_ble_eq_true rfl)
  rw [lg_entry_eq]
  generalize (lg_sl ([.int (nI (j)), .int (nI (k)), .null]) ++ List.replicate (3 - (lg_sl ([.int (nI (j)), .int (nI (k)), .null])).length) Slot.unset).toArray = ls at hl ⊢
  have hl : lv_has ls 3 [(0, .int (nI (j))), (1, .int (nI (k))), (2, .null)] := hl
  refine lv_iload_n hx hb dJ3_checkIndex_8e157_0 rfl (lv_at hl 0 rfl) ?_
  refine ln_if_lt (tgt := 9) hx hb dJ3_checkIndex_8e157_1 (by decide) (by omega) ?_
  refine lv_iload_n hx hb dJ3_checkIndex_8e157_4 rfl (lv_at hl 0 rfl) ?_
  refine lv_iload_n hx hb dJ3_checkIndex_8e157_5 rfl (lv_at hl 1 rfl) ?_
  refine ln_icmp_lt (tgt := 16) hx hb dJ3_checkIndex_8e157_6 (by decide) (by omega) (by omega) (fun c6 => ?_) (fun c6 => ?_)
  · refine lv_iload_n hx hb dJ3_checkIndex_8e157_16 rfl (lv_at hl 0 rfl) ?_
    exact rt_i hx hb hr hlocks (rfl) dJ3_checkIndex_8e157_17
  · exact absurd c6 (by omega)
set_option maxHeartbeats 4000000 in
set_option maxRecDepth 100000 in
theorem k_J3_ck_r (l : Launch) (aw aS aV aT : Nat → Nat) (j k : Nat) (t : Nat) (hj : j < k) (hk : k < 2 ^ 31) : MC l yJ3_checkIndex_8e157 qJ3_checkIndex_8e157 0 [.int (nI (j)), .int (nI (k)), .ref (t)] aw aS aV aT (nI j) := by
  refine Met.ofW (cc := cJ3_checkIndex_8e157) (maxL := 3) (ret := (some .int)) (by decide) rfl ?_
  intro p e s m args below meth c s₁ B hml hv
  obtain ⟨rfl, hC⟩ := hv
  have hx := B.exec
  have hb := B.bytes
  have hr := B.returns
  have hlocks := B.notSynchronized
  have hts : ∀ cq ∈ tg, cq.before ([.int (nI (j)), .int (nI (k)), .ref (t)] : List Value).toArray s = true := fun cq h => atoms_spec (ws := qJ3_checkIndex_8e157) B.pre cq (List.mem_cons_of_mem _ h)
  have hown : s.vm.findClass RJ3 = some m.cls := findClass_of_methodNamed B.named
  have hS : va_S (fun _ => False) s.heap s.heap [] := va_S.rf
  have hl := lv_entry ([.int (nI (j)), .int (nI (k)), .ref (t)]) (n := 3) (Nat.le_of_ble_eq_true rfl)
  rw [lg_entry_eq]
  generalize (lg_sl ([.int (nI (j)), .int (nI (k)), .ref (t)]) ++ List.replicate (3 - (lg_sl ([.int (nI (j)), .int (nI (k)), .ref (t)])).length) Slot.unset).toArray = ls at hl ⊢
  have hl : lv_has ls 3 [(0, .int (nI (j))), (1, .int (nI (k))), (2, .ref (t))] := hl
  refine lv_iload_n hx hb dJ3_checkIndex_8e157_0 rfl (lv_at hl 0 rfl) ?_
  refine ln_if_lt (tgt := 9) hx hb dJ3_checkIndex_8e157_1 (by decide) (by omega) ?_
  refine lv_iload_n hx hb dJ3_checkIndex_8e157_4 rfl (lv_at hl 0 rfl) ?_
  refine lv_iload_n hx hb dJ3_checkIndex_8e157_5 rfl (lv_at hl 1 rfl) ?_
  refine ln_icmp_lt (tgt := 16) hx hb dJ3_checkIndex_8e157_6 (by decide) (by omega) (by omega) (fun c6 => ?_) (fun c6 => ?_)
  · refine lv_iload_n hx hb dJ3_checkIndex_8e157_16 rfl (lv_at hl 0 rfl) ?_
    exact rt_i hx hb hr hlocks (rfl) dJ3_checkIndex_8e157_17
  · exact absurd c6 (by omega)
set_option maxHeartbeats 4000000 in
set_option maxRecDepth 100000 in
theorem k_J0_checkIndex_df160 (l : Launch) (aw aS aV aT : Nat → Nat) (j k : Nat) (hj : j < k) (hk : k < 2 ^ 31) : MC0 l yJ0_checkIndex_df160 qJ0_checkIndex_df160 1 [.int (nI (j)), .int (nI (k))] aw aS aV aT := by
  refine Met.ofW (cc := cJ0_checkIndex_df160) (maxL := 2) (ret := none) (by decide) rfl ?_
  intro p e s m args below meth c s₁ B hml hv
  obtain ⟨rfl, hC⟩ := hv
  have hx := B.exec
  have hb := B.bytes
  have hr := B.returns
  have hlocks := B.notSynchronized
  have hts : ∀ cq ∈ tg, cq.before ([.int (nI (j)), .int (nI (k))] : List Value).toArray s = true := fun cq h => atoms_spec (ws := qJ0_checkIndex_df160) B.pre cq (List.mem_cons_of_mem _ h)
  have hown : s.vm.findClass RJ0 = some m.cls := findClass_of_methodNamed B.named
  have hS : va_S (fun _ => False) s.heap s.heap [] := va_S.rf
  have hl := lv_entry ([.int (nI (j)), .int (nI (k))]) (n := 2) (Nat.le_of_ble_eq_true rfl)
  rw [lg_entry_eq]
  generalize (lg_sl ([.int (nI (j)), .int (nI (k))]) ++ List.replicate (2 - (lg_sl ([.int (nI (j)), .int (nI (k))])).length) Slot.unset).toArray = ls at hl ⊢
  have hl : lv_has ls 2 [(0, .int (nI (j))), (1, .int (nI (k)))] := hl
  refine lv_iload_n hx hb dJ0_checkIndex_df160_0 rfl (lv_at hl 0 rfl) ?_
  refine lv_iload_n hx hb dJ0_checkIndex_df160_1 rfl (lv_at hl 1 rfl) ?_
  rcases hC.2.2.2.2.2.2.2.2.1 with hZ | ⟨t, hZ⟩
  · refine va_gets hx hb hZ hS hown (hts _ flJ0_1053) (fun _ h => h) dJ0_checkIndex_df160_2 ?_
    refine kc_s (n := 3) (As := [.int (nI (j)), .int (nI (k)), .null]) (rest := []) ⟨hx, hb, hml, hown, hts⟩ (k_J3_ck_n l aw aS aV aT j k hj hk) (hts _ mlJ0_1059) (hts _ smJ3_checkIndex_8e157) (hts _ iniJ3) (gc_of cdJ3_checkIndex_8e157) (by decide +kernel) ⟨Nat.le_of_ble_eq_true rfl, Nat.le_of_ble_eq_true rfl⟩ hC hS rfl hl.1 rfl (Nat.le_of_ble_eq_true rfl) dJ0_checkIndex_df160_5 ⟨Nat.zero_le _, Nat.zero_le _⟩ ?_
    refine lv_pop hx hb dJ0_checkIndex_df160_8 rfl ?_
    exact rt_0 hx hb hr hlocks dJ0_checkIndex_df160_9
  · refine va_gets hx hb hZ hS hown (hts _ flJ0_1053) (fun _ h => h) dJ0_checkIndex_df160_2 ?_
    refine kc_s (n := 3) (As := [.int (nI (j)), .int (nI (k)), .ref (t)]) (rest := []) ⟨hx, hb, hml, hown, hts⟩ (k_J3_ck_r l aw aS aV aT j k t hj hk) (hts _ mlJ0_1059) (hts _ smJ3_checkIndex_8e157) (hts _ iniJ3) (gc_of cdJ3_checkIndex_8e157) (by decide +kernel) ⟨Nat.le_of_ble_eq_true rfl, Nat.le_of_ble_eq_true rfl⟩ hC hS rfl hl.1 rfl (Nat.le_of_ble_eq_true rfl) dJ0_checkIndex_df160_5 ⟨Nat.zero_le _, Nat.zero_le _⟩ ?_
    refine lv_pop hx hb dJ0_checkIndex_df160_8 rfl ?_
    exact rt_0 hx hb hr hlocks dJ0_checkIndex_df160_9
set_option maxHeartbeats 4000000 in
set_option maxRecDepth 100000 in
theorem k_J1_charAt_3b067 (l : Launch) (aw aS aV aT : Nat → Nat) (i j : Nat) (hi : i < 18) (hj : j < ln_ i) : MC l yJ1_charAt_3b067 qJ1_charAt_3b067 2 [.ref (aV i), .int (nI (j))] aw aS aV aT (nI (bn_ i j)) := by
  refine Met.ofW (cc := cJ1_charAt_3b067) (maxL := 2) (ret := (some .char)) (by decide) rfl ?_
  intro p e s m args below meth c s₁ B hml hv
  obtain ⟨rfl, hC⟩ := hv
  have hx := B.exec
  have hb := B.bytes
  have hr := B.returns
  have hlocks := B.notSynchronized
  have hts : ∀ cq ∈ tg, cq.before ([.ref (aV i), .int (nI (j))] : List Value).toArray s = true := fun cq h => atoms_spec (ws := qJ1_charAt_3b067) B.pre cq (List.mem_cons_of_mem _ h)
  have hown : s.vm.findClass RJ1 = some m.cls := findClass_of_methodNamed B.named
  have hS : va_S (fun _ => False) s.heap s.heap [] := va_S.rf
  have hl := lv_entry ([.ref (aV i), .int (nI (j))]) (n := 2) (Nat.le_of_ble_eq_true rfl)
  rw [lg_entry_eq]
  generalize (lg_sl ([.ref (aV i), .int (nI (j))]) ++ List.replicate (2 - (lg_sl ([.ref (aV i), .int (nI (j))])).length) Slot.unset).toArray = ls at hl ⊢
  have hl : lv_has ls 2 [(0, .ref (aV i)), (1, .int (nI (j)))] := hl
  have hl9 := ln_9 hi
  have hbb := bn_lt hi hj
  refine lv_iload_n hx hb dJ1_charAt_3b067_0 rfl (lv_at hl 1 rfl) ?_
  refine lv_aload_n hx hb dJ1_charAt_3b067_1 rfl (lv_at hl 0 rfl) ?_
  refine va_tlen (v := (nI (ln_ i))) hx hb (hC.2.2.1.1 i (by omega)).2.2.2 hS rfl dJ1_charAt_3b067_2 ?_
  refine kc_s0 (n := 2) (As := [.int (nI (j)), .int (nI (ln_ i))]) (rest := []) ⟨hx, hb, hml, hown, hts⟩ (k_J0_checkIndex_df160 l aw aS aV aT j (ln_ i) hj (by omega)) (hts _ mlJ1_9) (hts _ smJ0_checkIndex_df160) (hts _ iniJ0) (gc_of cdJ0_checkIndex_df160) (by decide +kernel) ⟨Nat.le_of_ble_eq_true rfl, Nat.le_of_ble_eq_true rfl⟩ hC hS rfl hl.1 rfl (Nat.le_of_ble_eq_true rfl) dJ1_charAt_3b067_3 ⟨Nat.zero_le _, Nat.zero_le _⟩ ?_
  refine lv_aload_n hx hb dJ1_charAt_3b067_6 rfl (lv_at hl 0 rfl) ?_
  refine lv_iload_n hx hb dJ1_charAt_3b067_7 rfl (lv_at hl 1 rfl) ?_
  refine lk_tb (v := .int (nI (bn_ i j))) hx hb (hC.2.2.1.1 i (by omega)).2.2.2 hS (show j < ln_ i from hj) (ln_31 (by omega)) (congrArg Value.int (byt_n (by omega) (show j < ln_ i from hj))) dJ1_charAt_3b067_8 ?_
  refine lv_sipush (v := nI 255) hx hb dJ1_charAt_3b067_9 (by decide) ?_
  refine ln_iand hx hb dJ1_charAt_3b067_12 ?_
  refine lv_i2c (v := ((nI ((bn_ i j) &&& 255)).toUInt32 % 65536).toInt32) hx hb dJ1_charAt_3b067_13 rfl ?_
  refine ln_eq (show (((nI ((bn_ i j) &&& 255)).toUInt32 % 65536).toInt32) = (nI (bn_ i j)) from i2c_n hbb.2) ?_
  exact rt_y hx hb hr hlocks (nar_c hbb.2) (rfl) dJ1_charAt_3b067_14
set_option maxHeartbeats 4000000 in
set_option maxRecDepth 100000 in
theorem k_J0_charAt_5068e (l : Launch) (aw aS aV aT : Nat → Nat) (i j : Nat) (hi : i < 18) (hj : j < ln_ i) : MC l yJ0_charAt_5068e qJ0_charAt_5068e 3 [.ref (aS i), .int (nI (j))] aw aS aV aT (nI (bn_ i j)) := by
  refine Met.ofW (cc := cJ0_charAt_5068e) (maxL := 2) (ret := (some .char)) (by decide) rfl ?_
  intro p e s m args below meth c s₁ B hml hv
  obtain ⟨rfl, hC⟩ := hv
  have hx := B.exec
  have hb := B.bytes
  have hr := B.returns
  have hlocks := B.notSynchronized
  have hts : ∀ cq ∈ tg, cq.before ([.ref (aS i), .int (nI (j))] : List Value).toArray s = true := fun cq h => atoms_spec (ws := qJ0_charAt_5068e) B.pre cq (List.mem_cons_of_mem _ h)
  have hown : s.vm.findClass RJ0 = some m.cls := findClass_of_methodNamed B.named
  have hS : va_S (fun _ => False) s.heap s.heap [] := va_S.rf
  have hl := lv_entry ([.ref (aS i), .int (nI (j))]) (n := 2) (Nat.le_of_ble_eq_true rfl)
  rw [lg_entry_eq]
  generalize (lg_sl ([.ref (aS i), .int (nI (j))]) ++ List.replicate (2 - (lg_sl ([.ref (aS i), .int (nI (j))])).length) Slot.unset).toArray = ls at hl ⊢
  have hl : lv_has ls 2 [(0, .ref (aS i)), (1, .int (nI (j)))] := hl
  have hbb := bn_lt hi hj
  refine lv_aload_n hx hb dJ0_charAt_5068e_0 rfl (lv_at hl 0 rfl) ?_
  refine kc_v (n := 0) (As := []) (rest := []) ⟨hx, hb, hml, hown, hts⟩ (k_J0_isLatin1_aae02 l aw aS aV aT i (by omega)) gvJ0_492 (by decide +kernel) ⟨Nat.le_of_ble_eq_true rfl, Nat.le_of_ble_eq_true rfl⟩ hC hS (hC.srecv (by omega) hS) rfl hl.1 rfl (Nat.le_of_ble_eq_true rfl) dJ0_charAt_5068e_1 ⟨Nat.zero_le _, Nat.zero_le _⟩ ?_
  refine lb_if_eq (tgt := 16) hx hb dJ0_charAt_5068e_4 (by decide) (fun c => absurd c (by decide)) (fun _ => ?_)
  refine lv_aload_n hx hb dJ0_charAt_5068e_7 rfl (lv_at hl 0 rfl) ?_
  refine vk_getf (v := .ref (aV i)) hx hb (hC.2.2.1.1 i (by omega)).2.2.1 hS hown (hts _ flJ0_9) (fun _ h => h) dJ0_charAt_5068e_8 ?_
  refine lv_iload_n hx hb dJ0_charAt_5068e_11 rfl (lv_at hl 1 rfl) ?_
  refine kc_s (n := 2) (As := [.ref (aV i), .int (nI (j))]) (rest := []) ⟨hx, hb, hml, hown, hts⟩ (k_J1_charAt_3b067 l aw aS aV aT i j (by omega) hj) (hts _ mlJ0_495) (hts _ smJ1_charAt_3b067) (hts _ iniJ1) (gc_of cdJ1_charAt_3b067) (by decide +kernel) ⟨Nat.le_of_ble_eq_true rfl, Nat.le_of_ble_eq_true rfl⟩ hC hS rfl hl.1 rfl (Nat.le_of_ble_eq_true rfl) dJ0_charAt_5068e_12 ⟨Nat.zero_le _, Nat.zero_le _⟩ ?_
  exact rt_y hx hb hr hlocks (nar_c hbb.2) (rfl) dJ0_charAt_5068e_15
def ixF (i c : Nat) : Nat → Nat → Int32
  | 0, _ => -1
  | k + 1, j => if bn_ i j = c then nI j else ixF i c k (j + 1)
def ixI (i c : Nat) : Int32 := ixF i c (ln_ i) 0
set_option maxHeartbeats 4000000 in
set_option maxRecDepth 100000 in
theorem k_J1_indexOfChar_4cfef (l : Launch) (aw aS aV aT : Nat → Nat) (i c1 : Nat) (hi : i < 18) (hc : c1 < 128) : MC l yJ1_indexOfChar_4cfef qJ1_indexOfChar_4cfef 0 [.ref (aV i), .int (nI (c1)), .int (nI (0)), .int (nI (ln_ i))] aw aS aV aT (ixI i c1) := by
  refine Met.ofW (cc := cJ1_indexOfChar_4cfef) (maxL := 6) (ret := (some .int)) (by decide) rfl ?_
  intro p e s m args below meth c s₁ B hml hv
  obtain ⟨rfl, hC⟩ := hv
  have hx := B.exec
  have hb := B.bytes
  have hr := B.returns
  have hlocks := B.notSynchronized
  have hts : ∀ cq ∈ tg, cq.before ([.ref (aV i), .int (nI (c1)), .int (nI (0)), .int (nI (ln_ i))] : List Value).toArray s = true := fun cq h => atoms_spec (ws := qJ1_indexOfChar_4cfef) B.pre cq (List.mem_cons_of_mem _ h)
  have hown : s.vm.findClass RJ1 = some m.cls := findClass_of_methodNamed B.named
  have hS : va_S (fun _ => False) s.heap s.heap [] := va_S.rf
  have hl := lv_entry ([.ref (aV i), .int (nI (c1)), .int (nI (0)), .int (nI (ln_ i))]) (n := 6) (Nat.le_of_ble_eq_true rfl)
  rw [lg_entry_eq]
  generalize (lg_sl ([.ref (aV i), .int (nI (c1)), .int (nI (0)), .int (nI (ln_ i))]) ++ List.replicate (6 - (lg_sl ([.ref (aV i), .int (nI (c1)), .int (nI (0)), .int (nI (ln_ i))])).length) Slot.unset).toArray = ls at hl ⊢
  have hl : lv_has ls 6 [(0, .ref (aV i)), (1, .int (nI (c1))), (2, .int (nI (0))), (3, .int (nI (ln_ i)))] := hl
  have hl9 := ln_9 hi
  refine lv_iload_n hx hb dJ1_indexOfChar_4cfef_0 rfl (lv_at hl 1 rfl) ?_
  refine lv_i2b (v := (nI (c1)).toInt8.toInt32) hx hb dJ1_indexOfChar_4cfef_1 rfl ?_
  refine ln_eq (show ((nI (c1)).toInt8.toInt32) = (nI (c1)) from i2b_n hc) ?_
  refine lv_istore (lv' := [(4, .int (nI (c1))), (0, .ref (aV i)), (1, .int (nI (c1))), (2, .int (nI (0))), (3, .int (nI (ln_ i)))]) hx hb dJ1_indexOfChar_4cfef_2 hl (by decide) rfl (fun ls hl => ?_)
  refine lv_iload_n hx hb dJ1_indexOfChar_4cfef_4 rfl (lv_at hl 3 rfl) ?_
  refine lv_istore (lv' := [(5, .int (nI (0))), (4, .int (nI (c1))), (0, .ref (aV i)), (1, .int (nI (c1))), (2, .int (nI (0))), (3, .int (nI (ln_ i)))]) hx hb dJ1_indexOfChar_4cfef_5 hl (by decide) rfl (fun ls hl => ?_)
  have lp : ∀ (k j : Nat) (ls : Array Slot), j + k = ln_ i → ixI i c1 = ixF i c1 k j → lv_has ls 6 [(5, .int (nI (j))), (4, .int (nI (c1))), (0, .ref (aV i)), (3, .int (nI (ln_ i)))] → W p l e (headSpec qJ1_indexOfChar_4cfef (rq 0)).room s m ([.ref (aV i), .int (nI (c1)), .int (nI (0)), .int (nI (ln_ i))] : List Value).toArray below meth c s.heap [] 0 0 (MQ below (vp_Si (fun r => r = ixI i c1)) ([.ref (aV i), .int (nI (c1)), .int (nI (0)), .int (nI (ln_ i))] : List Value).toArray s 0 0 (fun _ => False)) (F0 m 7 ls []) := by
    intro k
    induction k with
    | zero =>
      intro j ls hk hix hl
      refine lv_iload hx hb dJ1_indexOfChar_4cfef_7 (lv_at hl 0 rfl) ?_
      refine lv_iload_n hx hb dJ1_indexOfChar_4cfef_9 rfl (lv_at hl 3 rfl) ?_
      refine ln_icmp_ge (tgt := 31) hx hb dJ1_indexOfChar_4cfef_10 (by decide) (by omega) (by omega) (fun c10 => ?_) (fun c10 => ?_)
      · refine lv_iconst (v := -1) hx hb dJ1_indexOfChar_4cfef_31 (by decide) ?_
        exact rt_i hx hb hr hlocks (by rw [hix, ixF]) dJ1_indexOfChar_4cfef_32
      · exact absurd c10 (by omega)
    | succ k ih =>
      intro j ls hk hix hl
      have hbb := bn_lt (i := i) (j := j) hi (by omega)
      refine lv_iload hx hb dJ1_indexOfChar_4cfef_7 (lv_at hl 0 rfl) ?_
      refine lv_iload_n hx hb dJ1_indexOfChar_4cfef_9 rfl (lv_at hl 3 rfl) ?_
      refine ln_icmp_ge (tgt := 31) hx hb dJ1_indexOfChar_4cfef_10 (by decide) (by omega) (by omega) (fun c10 => ?_) (fun c10 => ?_)
      · exact absurd c10 (by omega)
      · refine lv_aload_n hx hb dJ1_indexOfChar_4cfef_13 rfl (lv_at hl 2 rfl) ?_
        refine lv_iload hx hb dJ1_indexOfChar_4cfef_14 (lv_at hl 0 rfl) ?_
        refine lk_tb (v := .int (nI (bn_ i j))) hx hb (hC.2.2.1.1 i (by omega)).2.2.2 hS (show j < ln_ i from (by omega)) (ln_31 (by omega)) (congrArg Value.int (byt_n (by omega) (show j < ln_ i from (by omega)))) dJ1_indexOfChar_4cfef_16 ?_
        refine lv_iload hx hb dJ1_indexOfChar_4cfef_17 (lv_at hl 1 rfl) ?_
        refine ln_icmp_ne (tgt := 25) hx hb dJ1_indexOfChar_4cfef_19 (by decide) (by omega) (by omega) (fun c19 => ?_) (fun c19 => ?_)
        · refine ln_iinc (lv' := [(5, .int (nI (j + 1))), (4, .int (nI (c1))), (0, .ref (aV i)), (3, .int (nI (ln_ i)))]) hx hb dJ1_indexOfChar_4cfef_25 hl (k := 0) (n := 1) rfl (by decide) rfl (fun ls hl => ?_)
          refine lv_goto (tgt := 7) hx hb dJ1_indexOfChar_4cfef_28 (by decide) ?_
          exact ih (j + 1) ls (by omega) (by rw [hix, ixF, if_neg c19]) (lv_sub hl [0, 1, 2, 3] rfl)
        · refine lv_iload hx hb dJ1_indexOfChar_4cfef_22 (lv_at hl 0 rfl) ?_
          exact rt_i hx hb hr hlocks (by rw [hix, ixF, if_pos c19]) dJ1_indexOfChar_4cfef_24
  exact lp (ln_ i) 0 ls (Nat.zero_add _) rfl (lv_sub hl [0, 1, 2, 5] rfl)
theorem mlmmaxJ1_92 : Cond.methodLink RJ1 92 Lib.Math.max.name ∈ tg := by decide +kernel
theorem smmmax : Cond.static Lib.Math.max.name ∈ tg := by decide +kernel
theorem cdmmax : Cond.code Lib.Math.max.name Lib.Math.max.code 2 (some .int) ∈ tg := by decide +kernel
theorem mlmminJ1_38 : Cond.methodLink RJ1 38 Lib.Math.min.name ∈ tg := by decide +kernel
theorem smmmin : Cond.static Lib.Math.min.name ∈ tg := by decide +kernel
theorem cdmmin : Cond.code Lib.Math.min.name Lib.Math.min.code 2 (some .int) ∈ tg := by decide +kernel
set_option maxHeartbeats 4000000 in
set_option maxRecDepth 100000 in
theorem k_J1_canEncode_9a6ad (l : Launch)  (a : Nat) (ha : a < 128) : MS l yJ1_canEncode_9a6ad qJ1_canEncode_9a6ad 0 [.int (nI (a))] (bI true) := by
  refine Met.ofW (cc := cJ1_canEncode_9a6ad) (maxL := 1) (ret := (some .boolean)) (by decide) rfl ?_
  intro p e s m args below meth c s₁ B hml hv
  obtain ⟨rfl, -⟩ := hv
  have hx := B.exec
  have hb := B.bytes
  have hr := B.returns
  have hlocks := B.notSynchronized
  have hts : ∀ cq ∈ tg, cq.before ([.int (nI (a))] : List Value).toArray s = true := fun cq h => atoms_spec (ws := qJ1_canEncode_9a6ad) B.pre cq (List.mem_cons_of_mem _ h)
  have hown : s.vm.findClass RJ1 = some m.cls := findClass_of_methodNamed B.named
  have hl := lv_entry ([.int (nI (a))]) (n := 1) (Nat.le_of_ble_eq_true rfl)
  rw [lg_entry_eq]
  generalize (lg_sl ([.int (nI (a))]) ++ List.replicate (1 - (lg_sl ([.int (nI (a))])).length) Slot.unset).toArray = ls at hl ⊢
  have hl : lv_has ls 1 [(0, .int (nI (a)))] := hl
  refine lv_iload_n hx hb dJ1_canEncode_9a6ad_0 rfl (lv_at hl 0 rfl) ?_
  refine ln_if_lt (tgt := 15) hx hb dJ1_canEncode_9a6ad_1 (by decide) (by omega) ?_
  refine lv_iload_n hx hb dJ1_canEncode_9a6ad_4 rfl (lv_at hl 0 rfl) ?_
  refine lv_sipush (v := nI 255) hx hb dJ1_canEncode_9a6ad_5 (by decide) ?_
  refine ln_icmp_gt (tgt := 15) hx hb dJ1_canEncode_9a6ad_8 (by decide) (by omega) (by omega) (fun c8 => ?_) (fun c8 => ?_)
  · exact absurd c8 (by omega)
  · refine lv_iconst (v := nI 1) hx hb dJ1_canEncode_9a6ad_11 (by decide) ?_
    refine lv_goto (tgt := 16) hx hb dJ1_canEncode_9a6ad_12 (by decide) ?_
    refine ln_eq bI_t.symm ?_
    exact rt_z hx hb hr hlocks (rfl) dJ1_canEncode_9a6ad_16
set_option maxHeartbeats 4000000 in
set_option maxRecDepth 100000 in
theorem k_J1_indexOf_4cfef (l : Launch) (aw aS aV aT : Nat → Nat) (i c1 : Nat) (hi : i < 18) (hc : c1 < 128) (h0 : 0 < ln_ i) : MC l yJ1_indexOf_4cfef qJ1_indexOf_4cfef 1 [.ref (aV i), .int (nI (c1)), .int (nI (0)), .int (nI (ln_ i))] aw aS aV aT (ixI i c1) := by
  refine Met.ofW (cc := cJ1_indexOf_4cfef) (maxL := 4) (ret := (some .int)) (by decide) rfl ?_
  intro p e s m args below meth c s₁ B hml hv
  obtain ⟨rfl, hC⟩ := hv
  have hx := B.exec
  have hb := B.bytes
  have hr := B.returns
  have hlocks := B.notSynchronized
  have hts : ∀ cq ∈ tg, cq.before ([.ref (aV i), .int (nI (c1)), .int (nI (0)), .int (nI (ln_ i))] : List Value).toArray s = true := fun cq h => atoms_spec (ws := qJ1_indexOf_4cfef) B.pre cq (List.mem_cons_of_mem _ h)
  have hown : s.vm.findClass RJ1 = some m.cls := findClass_of_methodNamed B.named
  have hS : va_S (fun _ => False) s.heap s.heap [] := va_S.rf
  have hl := lv_entry ([.ref (aV i), .int (nI (c1)), .int (nI (0)), .int (nI (ln_ i))]) (n := 4) (Nat.le_of_ble_eq_true rfl)
  rw [lg_entry_eq]
  generalize (lg_sl ([.ref (aV i), .int (nI (c1)), .int (nI (0)), .int (nI (ln_ i))]) ++ List.replicate (4 - (lg_sl ([.ref (aV i), .int (nI (c1)), .int (nI (0)), .int (nI (ln_ i))])).length) Slot.unset).toArray = ls at hl ⊢
  have hl : lv_has ls 4 [(0, .ref (aV i)), (1, .int (nI (c1))), (2, .int (nI (0))), (3, .int (nI (ln_ i)))] := hl
  have hl9 := ln_9 hi
  refine lv_iload_n hx hb dJ1_indexOf_4cfef_0 rfl (lv_at hl 1 rfl) ?_
  refine cr_so (n := 1) (As := [.int (nI (c1))]) (rest := []) ⟨hx, hb, hml, hown, hts⟩ (k_J1_canEncode_9a6ad l c1 (by omega)) (hts _ mlJ1_88) (hts _ smJ1_canEncode_9a6ad) (hts _ iniJ1) (gc_of cdJ1_canEncode_9a6ad) (by decide +kernel) ⟨Nat.le_of_ble_eq_true rfl, Nat.le_of_ble_eq_true rfl⟩ rfl hl.1 rfl (Nat.le_of_ble_eq_true rfl) dJ1_indexOf_4cfef_1 ⟨Nat.zero_le _, Nat.zero_le _⟩ ?_
  refine lb_if_ne (tgt := 9) hx hb dJ1_indexOf_4cfef_4 (by decide) (fun _ => ?_) (fun c => absurd c (by decide))
  refine lv_iload_n hx hb dJ1_indexOf_4cfef_9 rfl (lv_at hl 2 rfl) ?_
  refine lv_iconst (v := nI 0) hx hb dJ1_indexOf_4cfef_10 (by decide) ?_
  refine va_mmax hx hb (hml.trans hl.1.symm) hown (hts _ mlmmaxJ1_92) (hts _ smmmax) (hts _ iniJ9) (hts _ cdmmax) (by decide) (Nat.le_of_ble_eq_true rfl) (Nat.zero_le _) (Nat.zero_le _) dJ1_indexOf_4cfef_11 ?_
  refine ln_eq (show (if (nI (0)) < (nI (0)) then (nI (0)) else (nI (0))) = (nI (0)) from by decide) ?_
  refine lv_istore_n (lv' := [(2, .int (nI (0))), (0, .ref (aV i)), (1, .int (nI (c1))), (3, .int (nI (ln_ i)))]) hx hb dJ1_indexOf_4cfef_14 rfl hl (by decide) rfl (fun ls hl => ?_)
  refine lv_iload_n hx hb dJ1_indexOf_4cfef_15 rfl (lv_at hl 3 rfl) ?_
  refine lv_aload_n hx hb dJ1_indexOf_4cfef_16 rfl (lv_at hl 1 rfl) ?_
  refine va_tlen (v := (nI (ln_ i))) hx hb (hC.2.2.1.1 i (by omega)).2.2.2 hS rfl dJ1_indexOf_4cfef_17 ?_
  refine va_mmin hx hb (hml.trans hl.1.symm) hown (hts _ mlmminJ1_38) (hts _ smmmin) (hts _ iniJ9) (hts _ cdmmin) (by decide) (Nat.le_of_ble_eq_true rfl) (Nat.zero_le _) (Nat.zero_le _) dJ1_indexOf_4cfef_18 ?_
  refine ln_eq (show (if (nI (ln_ i)) < (nI (ln_ i)) then (nI (ln_ i)) else (nI (ln_ i))) = (nI (ln_ i)) from ite_self _) ?_
  refine lv_istore_n (lv' := [(3, .int (nI (ln_ i))), (2, .int (nI (0))), (0, .ref (aV i)), (1, .int (nI (c1)))]) hx hb dJ1_indexOf_4cfef_21 rfl hl (by decide) rfl (fun ls hl => ?_)
  refine lv_iload_n hx hb dJ1_indexOf_4cfef_22 rfl (lv_at hl 1 rfl) ?_
  refine lv_iload_n hx hb dJ1_indexOf_4cfef_23 rfl (lv_at hl 0 rfl) ?_
  refine ln_icmp_lt (tgt := 29) hx hb dJ1_indexOf_4cfef_24 (by decide) (by omega) (by omega) (fun c24 => ?_) (fun c24 => ?_)
  · refine lv_aload_n hx hb dJ1_indexOf_4cfef_29 rfl (lv_at hl 2 rfl) ?_
    refine lv_iload_n hx hb dJ1_indexOf_4cfef_30 rfl (lv_at hl 3 rfl) ?_
    refine lv_iload_n hx hb dJ1_indexOf_4cfef_31 rfl (lv_at hl 1 rfl) ?_
    refine lv_iload_n hx hb dJ1_indexOf_4cfef_32 rfl (lv_at hl 0 rfl) ?_
    refine kc_s (n := 4) (As := [.ref (aV i), .int (nI (c1)), .int (nI (0)), .int (nI (ln_ i))]) (rest := []) ⟨hx, hb, hml, hown, hts⟩ (k_J1_indexOfChar_4cfef l aw aS aV aT i c1 (by omega) (by omega)) (hts _ mlJ1_95) (hts _ smJ1_indexOfChar_4cfef) (hts _ iniJ1) (gc_of cdJ1_indexOfChar_4cfef) (by decide +kernel) ⟨Nat.le_of_ble_eq_true rfl, Nat.le_of_ble_eq_true rfl⟩ hC hS rfl hl.1 rfl (Nat.le_of_ble_eq_true rfl) dJ1_indexOf_4cfef_33 ⟨Nat.zero_le _, Nat.zero_le _⟩ ?_
    exact rt_i hx hb hr hlocks (rfl) dJ1_indexOf_4cfef_36
  · exact absurd c24 (by omega)
set_option maxHeartbeats 4000000 in
set_option maxRecDepth 100000 in
theorem k_J0_indexOf_7cf53 (l : Launch) (aw aS aV aT : Nat → Nat) (i c1 : Nat) (hi : i < 18) (hc : c1 < 128) (h0 : 0 < ln_ i) : MC l yJ0_indexOf_7cf53 qJ0_indexOf_7cf53 2 [.ref (aS i), .int (nI (c1)), .int (nI (0))] aw aS aV aT (ixI i c1) := by
  refine Met.ofW (cc := cJ0_indexOf_7cf53) (maxL := 3) (ret := (some .int)) (by decide) rfl ?_
  intro p e s m args below meth c s₁ B hml hv
  obtain ⟨rfl, hC⟩ := hv
  have hx := B.exec
  have hb := B.bytes
  have hr := B.returns
  have hlocks := B.notSynchronized
  have hts : ∀ cq ∈ tg, cq.before ([.ref (aS i), .int (nI (c1)), .int (nI (0))] : List Value).toArray s = true := fun cq h => atoms_spec (ws := qJ0_indexOf_7cf53) B.pre cq (List.mem_cons_of_mem _ h)
  have hown : s.vm.findClass RJ0 = some m.cls := findClass_of_methodNamed B.named
  have hS : va_S (fun _ => False) s.heap s.heap [] := va_S.rf
  have hl := lv_entry ([.ref (aS i), .int (nI (c1)), .int (nI (0))]) (n := 3) (Nat.le_of_ble_eq_true rfl)
  rw [lg_entry_eq]
  generalize (lg_sl ([.ref (aS i), .int (nI (c1)), .int (nI (0))]) ++ List.replicate (3 - (lg_sl ([.ref (aS i), .int (nI (c1)), .int (nI (0))])).length) Slot.unset).toArray = ls at hl ⊢
  have hl : lv_has ls 3 [(0, .ref (aS i)), (1, .int (nI (c1))), (2, .int (nI (0)))] := hl
  refine lv_aload_n hx hb dJ0_indexOf_7cf53_0 rfl (lv_at hl 0 rfl) ?_
  refine kc_v (n := 0) (As := []) (rest := []) ⟨hx, hb, hml, hown, hts⟩ (k_J0_isLatin1_aae02 l aw aS aV aT i (by omega)) gvJ0_492 (by decide +kernel) ⟨Nat.le_of_ble_eq_true rfl, Nat.le_of_ble_eq_true rfl⟩ hC hS (hC.srecv (by omega) hS) rfl hl.1 rfl (Nat.le_of_ble_eq_true rfl) dJ0_indexOf_7cf53_1 ⟨Nat.zero_le _, Nat.zero_le _⟩ ?_
  refine lb_if_eq (tgt := 23) hx hb dJ0_indexOf_7cf53_4 (by decide) (fun c => absurd c (by decide)) (fun _ => ?_)
  refine lv_aload_n hx hb dJ0_indexOf_7cf53_7 rfl (lv_at hl 0 rfl) ?_
  refine vk_getf (v := .ref (aV i)) hx hb (hC.2.2.1.1 i (by omega)).2.2.1 hS hown (hts _ flJ0_9) (fun _ h => h) dJ0_indexOf_7cf53_8 ?_
  refine lv_iload_n hx hb dJ0_indexOf_7cf53_11 rfl (lv_at hl 1 rfl) ?_
  refine lv_iload_n hx hb dJ0_indexOf_7cf53_12 rfl (lv_at hl 2 rfl) ?_
  refine lv_aload_n hx hb dJ0_indexOf_7cf53_13 rfl (lv_at hl 0 rfl) ?_
  refine kc_v (n := 0) (As := []) (rest := [.int (nI (0)), .int (nI (c1)), .ref (aV i)]) ⟨hx, hb, hml, hown, hts⟩ (k_J0_length_8abf5 l aw aS aV aT i (by omega)) gvJ0_505 (by decide +kernel) ⟨Nat.le_of_ble_eq_true rfl, Nat.le_of_ble_eq_true rfl⟩ hC hS (hC.srecv (by omega) hS) rfl hl.1 rfl (Nat.le_of_ble_eq_true rfl) dJ0_indexOf_7cf53_14 ⟨Nat.zero_le _, Nat.zero_le _⟩ ?_
  refine kc_s (n := 4) (As := [.ref (aV i), .int (nI (c1)), .int (nI (0)), .int (nI (ln_ i))]) (rest := []) ⟨hx, hb, hml, hown, hts⟩ (k_J1_indexOf_4cfef l aw aS aV aT i c1 hi hc h0) (hts _ mlJ0_637) (hts _ smJ1_indexOf_4cfef) (hts _ iniJ1) (gc_of cdJ1_indexOf_4cfef) (by decide +kernel) ⟨Nat.le_of_ble_eq_true rfl, Nat.le_of_ble_eq_true rfl⟩ hC hS rfl hl.1 rfl (Nat.le_of_ble_eq_true rfl) dJ0_indexOf_7cf53_17 ⟨Nat.zero_le _, Nat.zero_le _⟩ ?_
  refine lv_goto (tgt := 36) hx hb dJ0_indexOf_7cf53_20 (by decide) ?_
  exact rt_i hx hb hr hlocks (rfl) dJ0_indexOf_7cf53_36
set_option maxHeartbeats 4000000 in
set_option maxRecDepth 100000 in
theorem k_J0_indexOf_0f7a4 (l : Launch) (aw aS aV aT : Nat → Nat) (i c1 : Nat) (hi : i < 18) (hc : c1 < 128) (h0 : 0 < ln_ i) : MC l yJ0_indexOf_0f7a4 qJ0_indexOf_0f7a4 3 [.ref (aS i), .int (nI (c1))] aw aS aV aT (ixI i c1) := by
  refine Met.ofW (cc := cJ0_indexOf_0f7a4) (maxL := 2) (ret := (some .int)) (by decide) rfl ?_
  intro p e s m args below meth c s₁ B hml hv
  obtain ⟨rfl, hC⟩ := hv
  have hx := B.exec
  have hb := B.bytes
  have hr := B.returns
  have hlocks := B.notSynchronized
  have hts : ∀ cq ∈ tg, cq.before ([.ref (aS i), .int (nI (c1))] : List Value).toArray s = true := fun cq h => atoms_spec (ws := qJ0_indexOf_0f7a4) B.pre cq (List.mem_cons_of_mem _ h)
  have hown : s.vm.findClass RJ0 = some m.cls := findClass_of_methodNamed B.named
  have hS : va_S (fun _ => False) s.heap s.heap [] := va_S.rf
  have hl := lv_entry ([.ref (aS i), .int (nI (c1))]) (n := 2) (Nat.le_of_ble_eq_true rfl)
  rw [lg_entry_eq]
  generalize (lg_sl ([.ref (aS i), .int (nI (c1))]) ++ List.replicate (2 - (lg_sl ([.ref (aS i), .int (nI (c1))])).length) Slot.unset).toArray = ls at hl ⊢
  have hl : lv_has ls 2 [(0, .ref (aS i)), (1, .int (nI (c1)))] := hl
  refine lv_aload_n hx hb dJ0_indexOf_0f7a4_0 rfl (lv_at hl 0 rfl) ?_
  refine lv_iload_n hx hb dJ0_indexOf_0f7a4_1 rfl (lv_at hl 1 rfl) ?_
  refine lv_iconst (v := nI 0) hx hb dJ0_indexOf_0f7a4_2 (by decide) ?_
  refine kc_v (n := 2) (As := [.int (nI (c1)), .int (nI (0))]) (rest := []) ⟨hx, hb, hml, hown, hts⟩ (k_J0_indexOf_7cf53 l aw aS aV aT i c1 hi hc h0) gvJ0_633 (by decide +kernel) ⟨Nat.le_of_ble_eq_true rfl, Nat.le_of_ble_eq_true rfl⟩ hC hS (hC.srecv (by omega) hS) rfl hl.1 rfl (Nat.le_of_ble_eq_true rfl) dJ0_indexOf_0f7a4_3 ⟨Nat.zero_le _, Nat.zero_le _⟩ ?_
  exact rt_i hx hb hr hlocks (rfl) dJ0_indexOf_0f7a4_6
