def aW (c : Int64) : Int32 := if c = 232608281 then 0 else if c = 1758676 then 1 else if c = 1162559 then 2 else if c = 10502357 then 3 else if c = 3130427 then 4 else if c = 6683990 then 5 else -1
def bW (c : Int64) : Int32 := if c = 8059585273 then 6 else if c = 10266269 then 7 else if c = 5879 then 8 else if c = 459791 then 9 else if c = 309156998 then 10 else -1
def wI (k : Nat) : Int32 := if k = 11 then -1 else nI k
theorem aw_1 {c : Int64} (h : aW c = -1) : bW c = wI (wdN c) := by
  unfold aW at h
  unfold bW wdN
  split at h
  · exact absurd h (by decide)
  · rename_i h1
    rw [if_neg h1]
    split at h
    · exact absurd h (by decide)
    · rename_i h1
      rw [if_neg h1]
      split at h
      · exact absurd h (by decide)
      · rename_i h1
        rw [if_neg h1]
        split at h
        · exact absurd h (by decide)
        · rename_i h1
          rw [if_neg h1]
          split at h
          · exact absurd h (by decide)
          · rename_i h1
            rw [if_neg h1]
            split at h
            · exact absurd h (by decide)
            · rename_i h1
              rw [if_neg h1]
              (repeat' split) <;> rfl
theorem aw_2 {c : Int64} (h : ¬ aW c = -1) : aW c = wI (wdN c) := by
  unfold aW at h ⊢
  unfold wdN
  by_cases h1 : c = 232608281
  · rw [if_pos h1, if_pos h1]; rfl
  rw [if_neg h1] at h ⊢; rw [if_neg h1]
  by_cases h1 : c = 1758676
  · rw [if_pos h1, if_pos h1]; rfl
  rw [if_neg h1] at h ⊢; rw [if_neg h1]
  by_cases h1 : c = 1162559
  · rw [if_pos h1, if_pos h1]; rfl
  rw [if_neg h1] at h ⊢; rw [if_neg h1]
  by_cases h1 : c = 10502357
  · rw [if_pos h1, if_pos h1]; rfl
  rw [if_neg h1] at h ⊢; rw [if_neg h1]
  by_cases h1 : c = 3130427
  · rw [if_pos h1, if_pos h1]; rfl
  rw [if_neg h1] at h ⊢; rw [if_neg h1]
  by_cases h1 : c = 6683990
  · rw [if_pos h1, if_pos h1]; rfl
  rw [if_neg h1] at h
  exact absurd rfl h
theorem slo_7 {τ : Sg} : slo τ 7 = [] := rfl
theorem slo_9 {τ : Sg} : slo τ 9 = [fun v => decide (v < s_n τ), inB 0 9] := rfl
theorem slo_10 {τ : Sg} : slo τ 10 = [fun v => decide (v < s_n τ)] := rfl
theorem LnQ_mono {σ τ : Sg} {o j : Nat} {T T' u : Ms} (h : LnQ σ τ o j T' u) (h1 : ∀ i, i < j → m_rd T' i = m_rd T i) (h2 : m_rm T' = m_rm T) : LnQ σ τ o j T u := by
  unfold LnQ at h ⊢
  split
  · rename_i f e
    rw [e] at h; exact h
  · rename_i x e
    rw [e] at h
    exact ⟨h.1, h.2.1, fun i hi => (h.2.2.1 i hi).trans (h1 i hi), h.2.2.2.trans h2⟩
set_option maxHeartbeats 4000000 in
set_option maxRecDepth 100000 in
theorem k_X11_isLine (l : Launch) (D : va_G) (cy : Nat → ClassId) (ad : Nat → Nat) (σ : Sg) (T : Ms) (τ : Sg) (o j : Nat) (hw : wfS σ) (hn8 : s_n τ ≤ 8) (hm3 : s_m τ ≤ 3) (hwt : wfT (s_th τ)) (ho : o ≤ s_ln σ) (hrt : RT τ T o) (hj : j + 4 < 60) : MW l yX11_isLine qX11_isLine 5 [.ref (ad 0), .int (nI (j))] D cy (mw cy ad σ T) (LnP σ τ o j T) (fun u : Ms => mw cy ad σ u) := by
  intro sz
  refine Met.ofW (cc := cX11_isLine) (maxL := 4) (ret := (some .boolean)) (by decide) rfl ?_
  intro p e s m args below meth c s₁ B hml hv
  obtain ⟨rfl, rfl, hP, hK, hN, hD0⟩ := hv
  have hx := B.exec
  have hb := B.bytes
  have hr := B.returns
  have hlocks := B.notSynchronized
  have hts : ∀ cq ∈ tg, cq.before ([.ref (ad 0), .int (nI (j))] : List Value).toArray s = true := fun cq h => atoms_spec (ws := qX11_isLine) B.pre cq (List.mem_cons_of_mem _ h)
  have hown : s.vm.findClass RX11 = some m.cls := findClass_of_methodNamed B.named
  have hD := hD0.self (sz := s.heap.size)
  generalize hAe : va_A (mw cy ad σ T) s.heap.size = A at hD ⊢
  have hA : ∀ q : Nat, s.heap.size ≤ q → A q := fun q h => by rw [← hAe]; exact Or.inr h
  have hS : va_S A s.heap s.heap [] := va_S.rf
  have hl := lv_entry ([.ref (ad 0), .int (nI (j))]) (n := 4) (Nat.le_of_ble_eq_true rfl)
  rw [lg_entry_eq]
  generalize (lg_sl ([.ref (ad 0), .int (nI (j))]) ++ List.replicate (4 - (lg_sl ([.ref (ad 0), .int (nI (j))])).length) Slot.unset).toArray = ls at hl ⊢
  have hl : lv_has ls 4 [(0, .ref (ad 0)), (1, .int (nI (j)))] := hl
  have hp1 := tE_le ho
  have hp2 := tE_le hp1
  have hp3 := tE_le hp2
  have hp4 := tE_le hp3
  have hp5 := tE_le hp4
  refine lv_aload_n hx hb dX11_isLine_0 rfl (lv_at hl 0 rfl) ?_
  refine cr_vv (n := 0) (As := []) (rest := []) ⟨hx, hb, hml, hown, hts⟩ (k_X11_nextToken l D cy ad σ T o hw hrt.1 ho) gvX11_94 (by decide +kernel) ⟨Nat.le_of_ble_eq_true rfl, Nat.le_of_ble_eq_true rfl⟩ hK hN hP hD hS hA 0 (mw_c0 cy ad σ T) rfl rfl hl.1 rfl (Nat.le_of_ble_eq_true rfl) dX11_isLine_1 ⟨Nat.zero_le _, Nat.zero_le _⟩ (fun _ => (mw_ad _ _ _ _).trans (mw_ad _ _ _ _).symm) (fun u1 H locs hpu1 hP hD hS => ?_)
  obtain ⟨epo1, eta1, etk1, enu1, esr1⟩ := hpu1
  have hrt1 : RT τ u1 (tE σ o) := ⟨epo1, esr1.2.1.trans hrt.2.1, esr1.2.2.1.trans hrt.2.2.1, fun t ht => by rw [esr1.2.2.2.1]; exact hrt.2.2.2 t ht⟩
  have h0 : u1 = mu_rf (mu_rt u1 (nI (s_n τ))) (nI (s_m τ)) := by rw [← hrt1.2.1, ← hrt1.2.2.1]; exact (m_eta2 u1).symm
  have hP : va_P D vwCl (mw cy ad σ (mu_rf (mu_rt u1 (nI (s_n τ))) (nI (s_m τ)))) H := by rw [← h0]; exact hP
  have hD : va_D A (mw cy ad σ (mu_rf (mu_rt u1 (nI (s_n τ))) (nI (s_m τ)))) := by rw [← h0]; exact hD
  have h95 : W p l e (headSpec qX11_isLine (rq 5)).room s m ([.ref (ad 0), .int (nI (j))] : List Value).toArray below meth c H locs 0 0 (MQ below (va_Qi (LnP σ τ o j T) (fun u t => va_P D vwCl ((fun u : Ms => mw cy ad σ u) u) t.heap) A) ([.ref (ad 0), .int (nI (j))] : List Value).toArray s 0 0 A) (F0 m 95 ls [.int (aW (tC σ o))]) := by
    refine lv_istore_n (lv' := [(2, .int (aW (tC σ o))), (0, .ref (ad 0)), (1, .int (nI (j)))]) hx hb dX11_isLine_95 rfl hl (by decide) rfl (fun ls hl => ?_)
    have h177 : W p l e (headSpec qX11_isLine (rq 5)).room s m ([.ref (ad 0), .int (nI (j))] : List Value).toArray below meth c H locs 0 0 (MQ below (va_Qi (LnP σ τ o j T) (fun u t => va_P D vwCl ((fun u : Ms => mw cy ad σ u) u) t.heap) A) ([.ref (ad 0), .int (nI (j))] : List Value).toArray s 0 0 A) (F0 m 177 ls [.int (bW (tC σ o))]) := by
      refine lv_istore_n (lv' := [(3, .int (bW (tC σ o))), (2, .int (aW (tC σ o))), (0, .ref (ad 0)), (1, .int (nI (j)))]) hx hb dX11_isLine_177 rfl hl (by decide) rfl (fun ls hl => ?_)
      refine lv_aload_n hx hb dX11_isLine_178 rfl (lv_at hl 2 rfl) ?_
      refine va_get (D := D) (ci := 10) (v := .ref (ad 5)) (C := RX11) (T := TX11) (N := 31) hx hb hts ni11 hown hK hP 0 (mw_c0 cy ad σ (mu_rf (mu_rt u1 (nI (s_n τ))) (nI (s_m τ)))) rfl 16 (by decide) (hts _ flX11_22) (fun _ h => h) rfl dX11_isLine_179 ?_
      refine lv_iload_n hx hb dX11_isLine_182 rfl (lv_at hl 3 rfl) ?_
      refine lv_iload_n hx hb dX11_isLine_183 rfl (lv_at hl 1 rfl) ?_
      refine lv_iconst (v := -1) hx hb dX11_isLine_184 (by decide) ?_
      have h193 : W p l e (headSpec qX11_isLine (rq 5)).room s m ([.ref (ad 0), .int (nI (j))] : List Value).toArray below meth c H locs 0 0 (MQ below (va_Qi (LnP σ τ o j T) (fun u t => va_P D vwCl ((fun u : Ms => mw cy ad σ u) u) t.heap) A) ([.ref (ad 0), .int (nI (j))] : List Value).toArray s 0 0 A) (F0 m 193 ls [.int (wI (wdN (tC σ o))), .int (nI (j)), .ref (ad 5)]) := by
        have hwd := wdN_le (tC σ o)
        rcases (show wdN (tC σ o) = 0 ∨ wdN (tC σ o) = 1 ∨ wdN (tC σ o) = 2 ∨ wdN (tC σ o) = 3 ∨ wdN (tC σ o) = 4 ∨ wdN (tC σ o) = 5 ∨ wdN (tC σ o) = 6 ∨ wdN (tC σ o) = 7 ∨ wdN (tC σ o) = 8 ∨ wdN (tC σ o) = 9 ∨ wdN (tC σ o) = 10 ∨ wdN (tC σ o) = 11 by omega) with hk | hk | hk | hk | hk | hk | hk | hk | hk | hk | hk | hk
        · refine ln_eq (show (wI (wdN (tC σ o))) = (nI (0)) from by rw [hk]; rfl) ?_
          refine ln_iast hx hb hK hP hD hS 5 (mw_c5 cy ad σ (mu_rf (mu_rt u1 (nI (s_n τ))) (nI (s_m τ)))) (by omega) (by decide) (mp_5 cy ad σ (mu_rf (mu_rt u1 (nI (s_n τ))) (nI (s_m τ))) j (nI (0))) dX11_isLine_193 (fun H locs hP hD hS => ?_)
          refine lv_aload_n hx hb dX11_isLine_194 rfl (lv_at hl 2 rfl) ?_
          refine va_get (D := D) (ci := 10) (v := .ref (ad 5)) (C := RX11) (T := TX11) (N := 31) hx hb hts ni11 hown hK hP 0 (mw_c0 cy ad σ (mu_rd (mu_rf (mu_rt u1 (nI (s_n τ))) (nI (s_m τ))) (upd (m_rd u1) j (nI (0))))) rfl 16 (by decide) (hts _ flX11_22) (fun _ h => h) rfl dX11_isLine_195 ?_
          refine lv_iload_n hx hb dX11_isLine_198 rfl (lv_at hl 3 rfl) ?_
          refine ln_iald (v := (((upd (m_rd u1) j (nI (0)))) j)) hx hb hK hP 5 (mw_c5 cy ad σ (mu_rd (mu_rf (mu_rt u1 (nI (s_n τ))) (nI (s_m τ))) (upd (m_rd u1) j (nI (0))))) (by omega) (by decide) rfl dX11_isLine_199 ?_
          refine ln_eq (show (((upd (m_rd u1) j (nI (0)))) j) = (nI (0)) from upd_s) ?_
          refine lv_tableIn (tgt := 260) hx hb dX11_isLine_200 (by decide) (by decide) rfl (by decide) ?_
          refine lv_aload_n hx hb dX11_isLine_260 rfl (lv_at hl 2 rfl) ?_
          refine lv_iload_n hx hb dX11_isLine_261 rfl (lv_at hl 3 rfl) ?_
          refine cr_w (n := 1) (As := [.int (nI (j))]) (rest := []) ⟨hx, hb, hml, hown, hts⟩ (k_X11_isThingLine l D cy ad σ (mu_rd (mu_rf (mu_rt u1 (nI (s_n τ))) (nI (s_m τ))) (upd (m_rd u1) j (nI (0)))) τ o j 0 hw hn8 hm3 ho eta1 ⟨epo1, rfl, rfl, hrt1.2.2.2⟩ upd_s hj hk (by decide)) gvX11_132 (by decide +kernel) ⟨Nat.le_of_ble_eq_true rfl, Nat.le_of_ble_eq_true rfl⟩ hK hN hP hD hS hA 0 (mw_c0 cy ad σ (mu_rd (mu_rf (mu_rt u1 (nI (s_n τ))) (nI (s_m τ))) (upd (m_rd u1) j (nI (0))))) rfl rfl hl.1 rfl (Nat.le_of_ble_eq_true rfl) dX11_isLine_262 ⟨Nat.zero_le _, Nat.zero_le _⟩ (fun _ => (mw_ad _ _ _ _).trans (mw_ad _ _ _ _).symm) (fun r3 u2 H locs hpu2 hP hD hS => ?_)
          obtain ⟨rfl, elq2⟩ := hpu2
          exact rw_z hx hb hr hlocks hS u2 (⟨rfl, LnQ_mono elq2 (fun i hi => (upd_o (g := m_rd u1) (v := nI 0) (Nat.ne_of_lt hi)).trans (congrFun esr1.2.2.2.2 i)) esr1.1⟩) hP dX11_isLine_265
        · refine ln_eq (show (wI (wdN (tC σ o))) = (nI (1)) from by rw [hk]; rfl) ?_
          refine ln_iast hx hb hK hP hD hS 5 (mw_c5 cy ad σ (mu_rf (mu_rt u1 (nI (s_n τ))) (nI (s_m τ)))) (by omega) (by decide) (mp_5 cy ad σ (mu_rf (mu_rt u1 (nI (s_n τ))) (nI (s_m τ))) j (nI (1))) dX11_isLine_193 (fun H locs hP hD hS => ?_)
          refine lv_aload_n hx hb dX11_isLine_194 rfl (lv_at hl 2 rfl) ?_
          refine va_get (D := D) (ci := 10) (v := .ref (ad 5)) (C := RX11) (T := TX11) (N := 31) hx hb hts ni11 hown hK hP 0 (mw_c0 cy ad σ (mu_rd (mu_rf (mu_rt u1 (nI (s_n τ))) (nI (s_m τ))) (upd (m_rd u1) j (nI (1))))) rfl 16 (by decide) (hts _ flX11_22) (fun _ h => h) rfl dX11_isLine_195 ?_
          refine lv_iload_n hx hb dX11_isLine_198 rfl (lv_at hl 3 rfl) ?_
          refine ln_iald (v := (((upd (m_rd u1) j (nI (1)))) j)) hx hb hK hP 5 (mw_c5 cy ad σ (mu_rd (mu_rf (mu_rt u1 (nI (s_n τ))) (nI (s_m τ))) (upd (m_rd u1) j (nI (1))))) (by omega) (by decide) rfl dX11_isLine_199 ?_
          refine ln_eq (show (((upd (m_rd u1) j (nI (1)))) j) = (nI (1)) from upd_s) ?_
          refine lv_tableIn (tgt := 260) hx hb dX11_isLine_200 (by decide) (by decide) rfl (by decide) ?_
          refine lv_aload_n hx hb dX11_isLine_260 rfl (lv_at hl 2 rfl) ?_
          refine lv_iload_n hx hb dX11_isLine_261 rfl (lv_at hl 3 rfl) ?_
          refine cr_w (n := 1) (As := [.int (nI (j))]) (rest := []) ⟨hx, hb, hml, hown, hts⟩ (k_X11_isThingLine l D cy ad σ (mu_rd (mu_rf (mu_rt u1 (nI (s_n τ))) (nI (s_m τ))) (upd (m_rd u1) j (nI (1)))) τ o j 1 hw hn8 hm3 ho eta1 ⟨epo1, rfl, rfl, hrt1.2.2.2⟩ upd_s hj hk (by decide)) gvX11_132 (by decide +kernel) ⟨Nat.le_of_ble_eq_true rfl, Nat.le_of_ble_eq_true rfl⟩ hK hN hP hD hS hA 0 (mw_c0 cy ad σ (mu_rd (mu_rf (mu_rt u1 (nI (s_n τ))) (nI (s_m τ))) (upd (m_rd u1) j (nI (1))))) rfl rfl hl.1 rfl (Nat.le_of_ble_eq_true rfl) dX11_isLine_262 ⟨Nat.zero_le _, Nat.zero_le _⟩ (fun _ => (mw_ad _ _ _ _).trans (mw_ad _ _ _ _).symm) (fun r5 u4 H locs hpu4 hP hD hS => ?_)
          obtain ⟨rfl, elq4⟩ := hpu4
          exact rw_z hx hb hr hlocks hS u4 (⟨rfl, LnQ_mono elq4 (fun i hi => (upd_o (g := m_rd u1) (v := nI 1) (Nat.ne_of_lt hi)).trans (congrFun esr1.2.2.2.2 i)) esr1.1⟩) hP dX11_isLine_265
        · refine ln_eq (show (wI (wdN (tC σ o))) = (nI (2)) from by rw [hk]; rfl) ?_
          refine ln_iast hx hb hK hP hD hS 5 (mw_c5 cy ad σ (mu_rf (mu_rt u1 (nI (s_n τ))) (nI (s_m τ)))) (by omega) (by decide) (mp_5 cy ad σ (mu_rf (mu_rt u1 (nI (s_n τ))) (nI (s_m τ))) j (nI (2))) dX11_isLine_193 (fun H locs hP hD hS => ?_)
          refine lv_aload_n hx hb dX11_isLine_194 rfl (lv_at hl 2 rfl) ?_
          refine va_get (D := D) (ci := 10) (v := .ref (ad 5)) (C := RX11) (T := TX11) (N := 31) hx hb hts ni11 hown hK hP 0 (mw_c0 cy ad σ (mu_rd (mu_rf (mu_rt u1 (nI (s_n τ))) (nI (s_m τ))) (upd (m_rd u1) j (nI (2))))) rfl 16 (by decide) (hts _ flX11_22) (fun _ h => h) rfl dX11_isLine_195 ?_
          refine lv_iload_n hx hb dX11_isLine_198 rfl (lv_at hl 3 rfl) ?_
          refine ln_iald (v := (((upd (m_rd u1) j (nI (2)))) j)) hx hb hK hP 5 (mw_c5 cy ad σ (mu_rd (mu_rf (mu_rt u1 (nI (s_n τ))) (nI (s_m τ))) (upd (m_rd u1) j (nI (2))))) (by omega) (by decide) rfl dX11_isLine_199 ?_
          refine ln_eq (show (((upd (m_rd u1) j (nI (2)))) j) = (nI (2)) from upd_s) ?_
          refine lv_tableIn (tgt := 260) hx hb dX11_isLine_200 (by decide) (by decide) rfl (by decide) ?_
          refine lv_aload_n hx hb dX11_isLine_260 rfl (lv_at hl 2 rfl) ?_
          refine lv_iload_n hx hb dX11_isLine_261 rfl (lv_at hl 3 rfl) ?_
          refine cr_w (n := 1) (As := [.int (nI (j))]) (rest := []) ⟨hx, hb, hml, hown, hts⟩ (k_X11_isThingLine l D cy ad σ (mu_rd (mu_rf (mu_rt u1 (nI (s_n τ))) (nI (s_m τ))) (upd (m_rd u1) j (nI (2)))) τ o j 2 hw hn8 hm3 ho eta1 ⟨epo1, rfl, rfl, hrt1.2.2.2⟩ upd_s hj hk (by decide)) gvX11_132 (by decide +kernel) ⟨Nat.le_of_ble_eq_true rfl, Nat.le_of_ble_eq_true rfl⟩ hK hN hP hD hS hA 0 (mw_c0 cy ad σ (mu_rd (mu_rf (mu_rt u1 (nI (s_n τ))) (nI (s_m τ))) (upd (m_rd u1) j (nI (2))))) rfl rfl hl.1 rfl (Nat.le_of_ble_eq_true rfl) dX11_isLine_262 ⟨Nat.zero_le _, Nat.zero_le _⟩ (fun _ => (mw_ad _ _ _ _).trans (mw_ad _ _ _ _).symm) (fun r7 u6 H locs hpu6 hP hD hS => ?_)
          obtain ⟨rfl, elq6⟩ := hpu6
          exact rw_z hx hb hr hlocks hS u6 (⟨rfl, LnQ_mono elq6 (fun i hi => (upd_o (g := m_rd u1) (v := nI 2) (Nat.ne_of_lt hi)).trans (congrFun esr1.2.2.2.2 i)) esr1.1⟩) hP dX11_isLine_265
        · refine ln_eq (show (wI (wdN (tC σ o))) = (nI (3)) from by rw [hk]; rfl) ?_
          refine ln_iast hx hb hK hP hD hS 5 (mw_c5 cy ad σ (mu_rf (mu_rt u1 (nI (s_n τ))) (nI (s_m τ)))) (by omega) (by decide) (mp_5 cy ad σ (mu_rf (mu_rt u1 (nI (s_n τ))) (nI (s_m τ))) j (nI (3))) dX11_isLine_193 (fun H locs hP hD hS => ?_)
          refine lv_aload_n hx hb dX11_isLine_194 rfl (lv_at hl 2 rfl) ?_
          refine va_get (D := D) (ci := 10) (v := .ref (ad 5)) (C := RX11) (T := TX11) (N := 31) hx hb hts ni11 hown hK hP 0 (mw_c0 cy ad σ (mu_rd (mu_rf (mu_rt u1 (nI (s_n τ))) (nI (s_m τ))) (upd (m_rd u1) j (nI (3))))) rfl 16 (by decide) (hts _ flX11_22) (fun _ h => h) rfl dX11_isLine_195 ?_
          refine lv_iload_n hx hb dX11_isLine_198 rfl (lv_at hl 3 rfl) ?_
          refine ln_iald (v := (((upd (m_rd u1) j (nI (3)))) j)) hx hb hK hP 5 (mw_c5 cy ad σ (mu_rd (mu_rf (mu_rt u1 (nI (s_n τ))) (nI (s_m τ))) (upd (m_rd u1) j (nI (3))))) (by omega) (by decide) rfl dX11_isLine_199 ?_
          refine ln_eq (show (((upd (m_rd u1) j (nI (3)))) j) = (nI (3)) from upd_s) ?_
          refine lv_tableIn (tgt := 260) hx hb dX11_isLine_200 (by decide) (by decide) rfl (by decide) ?_
          refine lv_aload_n hx hb dX11_isLine_260 rfl (lv_at hl 2 rfl) ?_
          refine lv_iload_n hx hb dX11_isLine_261 rfl (lv_at hl 3 rfl) ?_
          refine cr_w (n := 1) (As := [.int (nI (j))]) (rest := []) ⟨hx, hb, hml, hown, hts⟩ (k_X11_isThingLine l D cy ad σ (mu_rd (mu_rf (mu_rt u1 (nI (s_n τ))) (nI (s_m τ))) (upd (m_rd u1) j (nI (3)))) τ o j 3 hw hn8 hm3 ho eta1 ⟨epo1, rfl, rfl, hrt1.2.2.2⟩ upd_s hj hk (by decide)) gvX11_132 (by decide +kernel) ⟨Nat.le_of_ble_eq_true rfl, Nat.le_of_ble_eq_true rfl⟩ hK hN hP hD hS hA 0 (mw_c0 cy ad σ (mu_rd (mu_rf (mu_rt u1 (nI (s_n τ))) (nI (s_m τ))) (upd (m_rd u1) j (nI (3))))) rfl rfl hl.1 rfl (Nat.le_of_ble_eq_true rfl) dX11_isLine_262 ⟨Nat.zero_le _, Nat.zero_le _⟩ (fun _ => (mw_ad _ _ _ _).trans (mw_ad _ _ _ _).symm) (fun r9 u8 H locs hpu8 hP hD hS => ?_)
          obtain ⟨rfl, elq8⟩ := hpu8
          exact rw_z hx hb hr hlocks hS u8 (⟨rfl, LnQ_mono elq8 (fun i hi => (upd_o (g := m_rd u1) (v := nI 3) (Nat.ne_of_lt hi)).trans (congrFun esr1.2.2.2.2 i)) esr1.1⟩) hP dX11_isLine_265
        · refine ln_eq (show (wI (wdN (tC σ o))) = (nI (4)) from by rw [hk]; rfl) ?_
          refine ln_iast hx hb hK hP hD hS 5 (mw_c5 cy ad σ (mu_rf (mu_rt u1 (nI (s_n τ))) (nI (s_m τ)))) (by omega) (by decide) (mp_5 cy ad σ (mu_rf (mu_rt u1 (nI (s_n τ))) (nI (s_m τ))) j (nI (4))) dX11_isLine_193 (fun H locs hP hD hS => ?_)
          refine lv_aload_n hx hb dX11_isLine_194 rfl (lv_at hl 2 rfl) ?_
          refine va_get (D := D) (ci := 10) (v := .ref (ad 5)) (C := RX11) (T := TX11) (N := 31) hx hb hts ni11 hown hK hP 0 (mw_c0 cy ad σ (mu_rd (mu_rf (mu_rt u1 (nI (s_n τ))) (nI (s_m τ))) (upd (m_rd u1) j (nI (4))))) rfl 16 (by decide) (hts _ flX11_22) (fun _ h => h) rfl dX11_isLine_195 ?_
          refine lv_iload_n hx hb dX11_isLine_198 rfl (lv_at hl 3 rfl) ?_
          refine ln_iald (v := (((upd (m_rd u1) j (nI (4)))) j)) hx hb hK hP 5 (mw_c5 cy ad σ (mu_rd (mu_rf (mu_rt u1 (nI (s_n τ))) (nI (s_m τ))) (upd (m_rd u1) j (nI (4))))) (by omega) (by decide) rfl dX11_isLine_199 ?_
          refine ln_eq (show (((upd (m_rd u1) j (nI (4)))) j) = (nI (4)) from upd_s) ?_
          refine lv_tableIn (tgt := 266) hx hb dX11_isLine_200 (by decide) (by decide) rfl (by decide) ?_
          refine lv_aload_n hx hb dX11_isLine_266 rfl (lv_at hl 2 rfl) ?_
          refine lv_iload_n hx hb dX11_isLine_267 rfl (lv_at hl 3 rfl) ?_
          refine cr_w (n := 1) (As := [.int (nI (j))]) (rest := []) ⟨hx, hb, hml, hown, hts⟩ (k_X11_isFerryLine l D cy ad σ (mu_rd (mu_rf (mu_rt u1 (nI (s_n τ))) (nI (s_m τ))) (upd (m_rd u1) j (nI (4)))) τ o j 4 hw hn8 hm3 ho eta1 ⟨epo1, rfl, rfl, hrt1.2.2.2⟩ upd_s hj hk (by decide) (by decide)) gvX11_136 (by decide +kernel) ⟨Nat.le_of_ble_eq_true rfl, Nat.le_of_ble_eq_true rfl⟩ hK hN hP hD hS hA 0 (mw_c0 cy ad σ (mu_rd (mu_rf (mu_rt u1 (nI (s_n τ))) (nI (s_m τ))) (upd (m_rd u1) j (nI (4))))) rfl rfl hl.1 rfl (Nat.le_of_ble_eq_true rfl) dX11_isLine_268 ⟨Nat.zero_le _, Nat.zero_le _⟩ (fun _ => (mw_ad _ _ _ _).trans (mw_ad _ _ _ _).symm) (fun r11 u10 H locs hpu10 hP hD hS => ?_)
          obtain ⟨rfl, elq10⟩ := hpu10
          exact rw_z hx hb hr hlocks hS u10 (⟨rfl, LnQ_mono elq10 (fun i hi => (upd_o (g := m_rd u1) (v := nI 4) (Nat.ne_of_lt hi)).trans (congrFun esr1.2.2.2.2 i)) esr1.1⟩) hP dX11_isLine_271
        · refine ln_eq (show (wI (wdN (tC σ o))) = (nI (5)) from by rw [hk]; rfl) ?_
          refine ln_iast hx hb hK hP hD hS 5 (mw_c5 cy ad σ (mu_rf (mu_rt u1 (nI (s_n τ))) (nI (s_m τ)))) (by omega) (by decide) (mp_5 cy ad σ (mu_rf (mu_rt u1 (nI (s_n τ))) (nI (s_m τ))) j (nI (5))) dX11_isLine_193 (fun H locs hP hD hS => ?_)
          refine lv_aload_n hx hb dX11_isLine_194 rfl (lv_at hl 2 rfl) ?_
          refine va_get (D := D) (ci := 10) (v := .ref (ad 5)) (C := RX11) (T := TX11) (N := 31) hx hb hts ni11 hown hK hP 0 (mw_c0 cy ad σ (mu_rd (mu_rf (mu_rt u1 (nI (s_n τ))) (nI (s_m τ))) (upd (m_rd u1) j (nI (5))))) rfl 16 (by decide) (hts _ flX11_22) (fun _ h => h) rfl dX11_isLine_195 ?_
          refine lv_iload_n hx hb dX11_isLine_198 rfl (lv_at hl 3 rfl) ?_
          refine ln_iald (v := (((upd (m_rd u1) j (nI (5)))) j)) hx hb hK hP 5 (mw_c5 cy ad σ (mu_rd (mu_rf (mu_rt u1 (nI (s_n τ))) (nI (s_m τ))) (upd (m_rd u1) j (nI (5))))) (by omega) (by decide) rfl dX11_isLine_199 ?_
          refine ln_eq (show (((upd (m_rd u1) j (nI (5)))) j) = (nI (5)) from upd_s) ?_
          refine lv_tableIn (tgt := 266) hx hb dX11_isLine_200 (by decide) (by decide) rfl (by decide) ?_
          refine lv_aload_n hx hb dX11_isLine_266 rfl (lv_at hl 2 rfl) ?_
          refine lv_iload_n hx hb dX11_isLine_267 rfl (lv_at hl 3 rfl) ?_
          refine cr_w (n := 1) (As := [.int (nI (j))]) (rest := []) ⟨hx, hb, hml, hown, hts⟩ (k_X11_isFerryLine l D cy ad σ (mu_rd (mu_rf (mu_rt u1 (nI (s_n τ))) (nI (s_m τ))) (upd (m_rd u1) j (nI (5)))) τ o j 5 hw hn8 hm3 ho eta1 ⟨epo1, rfl, rfl, hrt1.2.2.2⟩ upd_s hj hk (by decide) (by decide)) gvX11_136 (by decide +kernel) ⟨Nat.le_of_ble_eq_true rfl, Nat.le_of_ble_eq_true rfl⟩ hK hN hP hD hS hA 0 (mw_c0 cy ad σ (mu_rd (mu_rf (mu_rt u1 (nI (s_n τ))) (nI (s_m τ))) (upd (m_rd u1) j (nI (5))))) rfl rfl hl.1 rfl (Nat.le_of_ble_eq_true rfl) dX11_isLine_268 ⟨Nat.zero_le _, Nat.zero_le _⟩ (fun _ => (mw_ad _ _ _ _).trans (mw_ad _ _ _ _).symm) (fun r13 u12 H locs hpu12 hP hD hS => ?_)
          obtain ⟨rfl, elq12⟩ := hpu12
          exact rw_z hx hb hr hlocks hS u12 (⟨rfl, LnQ_mono elq12 (fun i hi => (upd_o (g := m_rd u1) (v := nI 5) (Nat.ne_of_lt hi)).trans (congrFun esr1.2.2.2.2 i)) esr1.1⟩) hP dX11_isLine_271
        · refine ln_eq (show (wI (wdN (tC σ o))) = (nI (6)) from by rw [hk]; rfl) ?_
          refine ln_iast hx hb hK hP hD hS 5 (mw_c5 cy ad σ (mu_rf (mu_rt u1 (nI (s_n τ))) (nI (s_m τ)))) (by omega) (by decide) (mp_5 cy ad σ (mu_rf (mu_rt u1 (nI (s_n τ))) (nI (s_m τ))) j (nI (6))) dX11_isLine_193 (fun H locs hP hD hS => ?_)
          refine lv_aload_n hx hb dX11_isLine_194 rfl (lv_at hl 2 rfl) ?_
          refine va_get (D := D) (ci := 10) (v := .ref (ad 5)) (C := RX11) (T := TX11) (N := 31) hx hb hts ni11 hown hK hP 0 (mw_c0 cy ad σ (mu_rd (mu_rf (mu_rt u1 (nI (s_n τ))) (nI (s_m τ))) (upd (m_rd u1) j (nI (6))))) rfl 16 (by decide) (hts _ flX11_22) (fun _ h => h) rfl dX11_isLine_195 ?_
          refine lv_iload_n hx hb dX11_isLine_198 rfl (lv_at hl 3 rfl) ?_
          refine ln_iald (v := (((upd (m_rd u1) j (nI (6)))) j)) hx hb hK hP 5 (mw_c5 cy ad σ (mu_rd (mu_rf (mu_rt u1 (nI (s_n τ))) (nI (s_m τ))) (upd (m_rd u1) j (nI (6))))) (by omega) (by decide) rfl dX11_isLine_199 ?_
          refine ln_eq (show (((upd (m_rd u1) j (nI (6)))) j) = (nI (6)) from upd_s) ?_
          refine lv_tableIn (tgt := 266) hx hb dX11_isLine_200 (by decide) (by decide) rfl (by decide) ?_
          refine lv_aload_n hx hb dX11_isLine_266 rfl (lv_at hl 2 rfl) ?_
          refine lv_iload_n hx hb dX11_isLine_267 rfl (lv_at hl 3 rfl) ?_
          refine cr_w (n := 1) (As := [.int (nI (j))]) (rest := []) ⟨hx, hb, hml, hown, hts⟩ (k_X11_isFerryLine l D cy ad σ (mu_rd (mu_rf (mu_rt u1 (nI (s_n τ))) (nI (s_m τ))) (upd (m_rd u1) j (nI (6)))) τ o j 6 hw hn8 hm3 ho eta1 ⟨epo1, rfl, rfl, hrt1.2.2.2⟩ upd_s hj hk (by decide) (by decide)) gvX11_136 (by decide +kernel) ⟨Nat.le_of_ble_eq_true rfl, Nat.le_of_ble_eq_true rfl⟩ hK hN hP hD hS hA 0 (mw_c0 cy ad σ (mu_rd (mu_rf (mu_rt u1 (nI (s_n τ))) (nI (s_m τ))) (upd (m_rd u1) j (nI (6))))) rfl rfl hl.1 rfl (Nat.le_of_ble_eq_true rfl) dX11_isLine_268 ⟨Nat.zero_le _, Nat.zero_le _⟩ (fun _ => (mw_ad _ _ _ _).trans (mw_ad _ _ _ _).symm) (fun r15 u14 H locs hpu14 hP hD hS => ?_)
          obtain ⟨rfl, elq14⟩ := hpu14
          exact rw_z hx hb hr hlocks hS u14 (⟨rfl, LnQ_mono elq14 (fun i hi => (upd_o (g := m_rd u1) (v := nI 6) (Nat.ne_of_lt hi)).trans (congrFun esr1.2.2.2.2 i)) esr1.1⟩) hP dX11_isLine_271
        · refine ln_eq (show (wI (wdN (tC σ o))) = (nI (7)) from by rw [hk]; rfl) ?_
          refine ln_iast hx hb hK hP hD hS 5 (mw_c5 cy ad σ (mu_rf (mu_rt u1 (nI (s_n τ))) (nI (s_m τ)))) (by omega) (by decide) (mp_5 cy ad σ (mu_rf (mu_rt u1 (nI (s_n τ))) (nI (s_m τ))) j (nI (7))) dX11_isLine_193 (fun H locs hP hD hS => ?_)
          refine lv_aload_n hx hb dX11_isLine_194 rfl (lv_at hl 2 rfl) ?_
          refine va_get (D := D) (ci := 10) (v := .ref (ad 5)) (C := RX11) (T := TX11) (N := 31) hx hb hts ni11 hown hK hP 0 (mw_c0 cy ad σ (mu_rd (mu_rf (mu_rt u1 (nI (s_n τ))) (nI (s_m τ))) (upd (m_rd u1) j (nI (7))))) rfl 16 (by decide) (hts _ flX11_22) (fun _ h => h) rfl dX11_isLine_195 ?_
          refine lv_iload_n hx hb dX11_isLine_198 rfl (lv_at hl 3 rfl) ?_
          refine ln_iald (v := (((upd (m_rd u1) j (nI (7)))) j)) hx hb hK hP 5 (mw_c5 cy ad σ (mu_rd (mu_rf (mu_rt u1 (nI (s_n τ))) (nI (s_m τ))) (upd (m_rd u1) j (nI (7))))) (by omega) (by decide) rfl dX11_isLine_199 ?_
          refine ln_eq (show (((upd (m_rd u1) j (nI (7)))) j) = (nI (7)) from upd_s) ?_
          refine lv_tableIn (tgt := 272) hx hb dX11_isLine_200 (by decide) (by decide) rfl (by decide) ?_
          refine lv_aload_n hx hb dX11_isLine_272 rfl (lv_at hl 2 rfl) ?_
          refine lv_iconst (v := nI 0) hx hb dX11_isLine_273 (by decide) ?_
          refine ln_put (ci := 10) (C := RX11) (T := TX11) (N := 31) (ty := .int) (v := .int (nI (0))) hx hb hts ni11 tyX11 tyX11_ok nmX11 hown hK hP hD hS 0 (mw_c0 cy ad σ (mu_rd (mu_rf (mu_rt u1 (nI (s_n τ))) (nI (s_m τ))) (upd (m_rd u1) j (nI (7))))) rfl 13 (by decide) (hts _ flX11_101) (fun _ h => h) rfl (by decide +kernel) rfl rfl (Nat.le_of_ble_eq_true rfl) ((mp_0_13 cy ad σ (mu_rd (mu_rf (mu_rt u1 (nI (s_n τ))) (nI (s_m τ))) (upd (m_rd u1) j (nI (7)))) (nI (0))).trans (congrArg (fun z => mw cy ad σ z) (by rw [mx_rt_rd, mx_rt_rf, mc_rt]))) dX11_isLine_274 (fun H locs hP hD hS => ?_)
          refine lv_aload_n hx hb dX11_isLine_277 rfl (lv_at hl 2 rfl) ?_
          refine lv_iconst (v := nI 0) hx hb dX11_isLine_278 (by decide) ?_
          refine ln_put (ci := 10) (C := RX11) (T := TX11) (N := 31) (ty := .int) (v := .int (nI (0))) hx hb hts ni11 tyX11 tyX11_ok nmX11 hown hK hP hD hS 0 (mw_c0 cy ad σ (mu_rd (mu_rf (mu_rt u1 (nI (0))) (nI (s_m τ))) (upd (m_rd u1) j (nI (7))))) rfl 14 (by decide) (hts _ flX11_107) (fun _ h => h) rfl (by decide +kernel) rfl rfl (Nat.le_of_ble_eq_true rfl) ((mp_0_14 cy ad σ (mu_rd (mu_rf (mu_rt u1 (nI (0))) (nI (s_m τ))) (upd (m_rd u1) j (nI (7)))) (nI (0))).trans (congrArg (fun z => mw cy ad σ z) (by rw [mx_rf_rd, mc_rf]))) dX11_isLine_279 (fun H locs hP hD hS => ?_)
          refine lv_iconst (v := nI 1) hx hb dX11_isLine_282 (by decide) ?_
          refine ln_eq bI_t.symm ?_
          exact rw_z hx hb hr hlocks hS (mu_rd (mu_rf (mu_rt u1 (nI (0))) (nI (0))) (upd (m_rd u1) j (nI (7)))) (LnP_t (x := (tE σ o, 7, [])) (by rw [rLine_k hk (by decide) (too_O (by decide)), slo_7, rNum]) ⟨epo1, rfl, rfl, fun t ht => absurd ht (Nat.not_lt_zero t)⟩ (by have hh := LB_0 (u := (mu_rd (mu_rf (mu_rt u1 (nI (0))) (nI (0))) (upd (m_rd u1) j (nI (7))))) (j := j) (k := 7) (g := upd (m_rd u1) j (nI 7)) rfl upd_s; exact ⟨hh.1, fun i hi => (hh.2 i hi).trans ((upd_o (Nat.ne_of_lt hi)).trans (congrFun esr1.2.2.2.2 i))⟩) esr1.1) hP dX11_isLine_283
        · refine ln_eq (show (wI (wdN (tC σ o))) = (nI (8)) from by rw [hk]; rfl) ?_
          refine ln_iast hx hb hK hP hD hS 5 (mw_c5 cy ad σ (mu_rf (mu_rt u1 (nI (s_n τ))) (nI (s_m τ)))) (by omega) (by decide) (mp_5 cy ad σ (mu_rf (mu_rt u1 (nI (s_n τ))) (nI (s_m τ))) j (nI (8))) dX11_isLine_193 (fun H locs hP hD hS => ?_)
          refine lv_aload_n hx hb dX11_isLine_194 rfl (lv_at hl 2 rfl) ?_
          refine va_get (D := D) (ci := 10) (v := .ref (ad 5)) (C := RX11) (T := TX11) (N := 31) hx hb hts ni11 hown hK hP 0 (mw_c0 cy ad σ (mu_rd (mu_rf (mu_rt u1 (nI (s_n τ))) (nI (s_m τ))) (upd (m_rd u1) j (nI (8))))) rfl 16 (by decide) (hts _ flX11_22) (fun _ h => h) rfl dX11_isLine_195 ?_
          refine lv_iload_n hx hb dX11_isLine_198 rfl (lv_at hl 3 rfl) ?_
          refine ln_iald (v := (((upd (m_rd u1) j (nI (8)))) j)) hx hb hK hP 5 (mw_c5 cy ad σ (mu_rd (mu_rf (mu_rt u1 (nI (s_n τ))) (nI (s_m τ))) (upd (m_rd u1) j (nI (8))))) (by omega) (by decide) rfl dX11_isLine_199 ?_
          refine ln_eq (show (((upd (m_rd u1) j (nI (8)))) j) = (nI (8)) from upd_s) ?_
          refine lv_tableIn (tgt := 284) hx hb dX11_isLine_200 (by decide) (by decide) rfl (by decide) ?_
          refine lv_aload_n hx hb dX11_isLine_284 rfl (lv_at hl 2 rfl) ?_
          refine lv_iload_n hx hb dX11_isLine_285 rfl (lv_at hl 3 rfl) ?_
          refine cr_w (n := 1) (As := [.int (nI (j))]) (rest := []) ⟨hx, hb, hml, hown, hts⟩ (k_X11_isHat l D cy ad σ (mu_rd (mu_rf (mu_rt u1 (nI (s_n τ))) (nI (s_m τ))) (upd (m_rd u1) j (nI (8)))) τ o j 8 hw hn8 hm3 ho eta1 ⟨epo1, rfl, rfl, hrt1.2.2.2⟩ upd_s hj hk rfl hwt) gvX11_139 (by decide +kernel) ⟨Nat.le_of_ble_eq_true rfl, Nat.le_of_ble_eq_true rfl⟩ hK hN hP hD hS hA 0 (mw_c0 cy ad σ (mu_rd (mu_rf (mu_rt u1 (nI (s_n τ))) (nI (s_m τ))) (upd (m_rd u1) j (nI (8))))) rfl rfl hl.1 rfl (Nat.le_of_ble_eq_true rfl) dX11_isLine_286 ⟨Nat.zero_le _, Nat.zero_le _⟩ (fun _ => (mw_ad _ _ _ _).trans (mw_ad _ _ _ _).symm) (fun r17 u16 H locs hpu16 hP hD hS => ?_)
          obtain ⟨rfl, elq16⟩ := hpu16
          exact rw_z hx hb hr hlocks hS u16 (⟨rfl, LnQ_mono elq16 (fun i hi => (upd_o (g := m_rd u1) (v := nI 8) (Nat.ne_of_lt hi)).trans (congrFun esr1.2.2.2.2 i)) esr1.1⟩) hP dX11_isLine_289
        · refine ln_eq (show (wI (wdN (tC σ o))) = (nI (9)) from by rw [hk]; rfl) ?_
          refine ln_iast hx hb hK hP hD hS 5 (mw_c5 cy ad σ (mu_rf (mu_rt u1 (nI (s_n τ))) (nI (s_m τ)))) (by omega) (by decide) (mp_5 cy ad σ (mu_rf (mu_rt u1 (nI (s_n τ))) (nI (s_m τ))) j (nI (9))) dX11_isLine_193 (fun H locs hP hD hS => ?_)
          refine lv_aload_n hx hb dX11_isLine_194 rfl (lv_at hl 2 rfl) ?_
          refine va_get (D := D) (ci := 10) (v := .ref (ad 5)) (C := RX11) (T := TX11) (N := 31) hx hb hts ni11 hown hK hP 0 (mw_c0 cy ad σ (mu_rd (mu_rf (mu_rt u1 (nI (s_n τ))) (nI (s_m τ))) (upd (m_rd u1) j (nI (9))))) rfl 16 (by decide) (hts _ flX11_22) (fun _ h => h) rfl dX11_isLine_195 ?_
          refine lv_iload_n hx hb dX11_isLine_198 rfl (lv_at hl 3 rfl) ?_
          refine ln_iald (v := (((upd (m_rd u1) j (nI (9)))) j)) hx hb hK hP 5 (mw_c5 cy ad σ (mu_rd (mu_rf (mu_rt u1 (nI (s_n τ))) (nI (s_m τ))) (upd (m_rd u1) j (nI (9))))) (by omega) (by decide) rfl dX11_isLine_199 ?_
          refine ln_eq (show (((upd (m_rd u1) j (nI (9)))) j) = (nI (9)) from upd_s) ?_
          refine lv_tableIn (tgt := 290) hx hb dX11_isLine_200 (by decide) (by decide) rfl (by decide) ?_
          refine lv_aload_n hx hb dX11_isLine_290 rfl (lv_at hl 2 rfl) ?_
          refine lv_iload_n hx hb dX11_isLine_291 rfl (lv_at hl 3 rfl) ?_
          refine lv_iconst (v := nI 1) hx hb dX11_isLine_292 (by decide) ?_
          refine ln_iadd hx hb dX11_isLine_293 ?_
          refine lv_iconst (v := nI 0) hx hb dX11_isLine_294 (by decide) ?_
          refine lv_aload_n hx hb dX11_isLine_295 rfl (lv_at hl 2 rfl) ?_
          refine va_get (D := D) (ci := 10) (v := .int (nI (s_n τ))) (C := RX11) (T := TX11) (N := 31) hx hb hts ni11 hown hK hP 0 (mw_c0 cy ad σ (mu_rd (mu_rf (mu_rt u1 (nI (s_n τ))) (nI (s_m τ))) (upd (m_rd u1) j (nI (9))))) rfl 13 (by decide) (hts _ flX11_101) (fun _ h => h) rfl dX11_isLine_296 ?_
          refine lv_iconst (v := nI 1) hx hb dX11_isLine_299 (by decide) ?_
          refine lv_isub hx hb dX11_isLine_300 ?_
          refine cr_w (n := 3) (As := [.int (nI (j + 1)), .int (nI (0)), .int ((nI (s_n τ)) - (nI (1)))]) (rest := []) ⟨hx, hb, hml, hown, hts⟩ (k_X11_isNumber l D cy ad σ (mu_rd (mu_rf (mu_rt u1 (nI (s_n τ))) (nI (s_m τ))) (upd (m_rd u1) j (nI (9)))) (tE σ o) (j + 1) (nI (0)) ((nI (s_n τ)) - (nI (1))) hw epo1 hp1 (by omega)) gvX11_104 (by decide +kernel) ⟨Nat.le_of_ble_eq_true rfl, Nat.le_of_ble_eq_true rfl⟩ hK hN hP hD hS hA 0 (mw_c0 cy ad σ (mu_rd (mu_rf (mu_rt u1 (nI (s_n τ))) (nI (s_m τ))) (upd (m_rd u1) j (nI (9))))) rfl rfl hl.1 rfl (Nat.le_of_ble_eq_true rfl) dX11_isLine_301 ⟨Nat.zero_le _, Nat.zero_le _⟩ (fun _ => (mw_ad _ _ _ _).trans (mw_ad _ _ _ _).symm) (fun r19 u18 H locs hpu18 hP hD hS => ?_)
          obtain ⟨rfl, eyes18, eno18⟩ := hpu18
          refine lb_if_eq (tgt := 324) hx hb dX11_isLine_304 (by decide) (fun c304 => ?_) (fun c304 => ?_)
          · refine lv_iconst (v := nI 0) hx hb dX11_isLine_324 (by decide) ?_
            refine ln_eq bI_f.symm ?_
            exact rw_z hx hb hr hlocks hS u18 (LnP_f (by rw [rLine_k hk (by decide) (too_O (by decide)), slo_9, rNum_f (by rw [← gI_lt hn8]; exact c304)]) (eno18 c304)) hP dX11_isLine_325
          · refine lv_aload_n hx hb dX11_isLine_307 rfl (lv_at hl 2 rfl) ?_
            refine lv_iload_n hx hb dX11_isLine_308 rfl (lv_at hl 3 rfl) ?_
            refine lv_iconst (v := nI 2) hx hb dX11_isLine_309 (by decide) ?_
            refine ln_iadd hx hb dX11_isLine_310 ?_
            refine lv_iconst (v := nI 0) hx hb dX11_isLine_311 (by decide) ?_
            refine lv_bipush (v := nI 9) hx hb dX11_isLine_312 (by decide) ?_
            refine cr_w (n := 3) (As := [.int (nI (j + 2)), .int (nI (0)), .int (nI (9))]) (rest := []) ⟨hx, hb, hml, hown, hts⟩ (k_X11_isNumber l D cy ad σ u18 (tE σ (tE σ o)) (j + 2) (nI (0)) (nI (9)) hw (eyes18 c304).1 hp2 (by omega)) gvX11_104 (by decide +kernel) ⟨Nat.le_of_ble_eq_true rfl, Nat.le_of_ble_eq_true rfl⟩ hK hN hP hD hS hA 0 (mw_c0 cy ad σ u18) rfl rfl hl.1 rfl (Nat.le_of_ble_eq_true rfl) dX11_isLine_314 ⟨Nat.zero_le _, Nat.zero_le _⟩ (fun _ => (mw_ad _ _ _ _).trans (mw_ad _ _ _ _).symm) (fun r21 u20 H locs hpu20 hP hD hS => ?_)
            obtain ⟨rfl, eyes20, eno20⟩ := hpu20
            refine lb_if_eq (tgt := 324) hx hb dX11_isLine_317 (by decide) (fun c317 => ?_) (fun c317 => ?_)
            · refine lv_iconst (v := nI 0) hx hb dX11_isLine_324 (by decide) ?_
              refine ln_eq bI_f.symm ?_
              exact rw_z hx hb hr hlocks hS u20 (LnP_f (by rw [rLine_k hk (by decide) (too_O (by decide)), slo_9, rNum_t (by rw [← gI_lt hn8]; exact c304), rNum_f (by rw [← gI_in (by decide) (by decide)]; exact c317)]) (eno20 c317)) hP dX11_isLine_325
            · refine lv_iconst (v := nI 1) hx hb dX11_isLine_320 (by decide) ?_
              refine lv_goto (tgt := 325) hx hb dX11_isLine_321 (by decide) ?_
              refine ln_eq bI_t.symm ?_
              exact rw_z hx hb hr hlocks hS u20 (LnP_t (x := (tE σ (tE σ (tE σ o)), 9, [tN σ (tE σ o), tN σ (tE σ (tE σ o))])) (by rw [rLine_k hk (by decide) (too_O (by decide)), slo_9, rNum_t (by rw [← gI_lt hn8]; exact c304), rNum_t (by rw [← gI_in (by decide) (by decide)]; exact c317)]; rfl) (RT_O hrt1 (Nat.le_of_ble_eq_true rfl) (eyes20 c317).1 ((eyes20 c317).2.2.2.1.trans (eyes18 c304).2.2.2.1) ((eyes20 c317).2.2.2.2.1.trans (eyes18 c304).2.2.2.2.1) ((eyes20 c317).2.2.2.2.2.1.trans (eyes18 c304).2.2.2.2.2.1)) (by have hh := LB_2 (u := u20) (j := j) (k := 9) (g := upd (m_rd u1) j (nI 9)) (by rw [(eyes20 c317).2.2.2.2.2.2, (eyes18 c304).2.2.2.2.2.2]; rfl) upd_s; exact ⟨hh.1, fun i hi => (hh.2 i hi).trans ((upd_o (Nat.ne_of_lt hi)).trans (congrFun esr1.2.2.2.2 i))⟩) (((eyes20 c317).2.2.1.trans (eyes18 c304).2.2.1).trans esr1.1)) hP dX11_isLine_325
        · refine ln_eq (show (wI (wdN (tC σ o))) = (nI (10)) from by rw [hk]; rfl) ?_
          refine ln_iast hx hb hK hP hD hS 5 (mw_c5 cy ad σ (mu_rf (mu_rt u1 (nI (s_n τ))) (nI (s_m τ)))) (by omega) (by decide) (mp_5 cy ad σ (mu_rf (mu_rt u1 (nI (s_n τ))) (nI (s_m τ))) j (nI (10))) dX11_isLine_193 (fun H locs hP hD hS => ?_)
          refine lv_aload_n hx hb dX11_isLine_194 rfl (lv_at hl 2 rfl) ?_
          refine va_get (D := D) (ci := 10) (v := .ref (ad 5)) (C := RX11) (T := TX11) (N := 31) hx hb hts ni11 hown hK hP 0 (mw_c0 cy ad σ (mu_rd (mu_rf (mu_rt u1 (nI (s_n τ))) (nI (s_m τ))) (upd (m_rd u1) j (nI (10))))) rfl 16 (by decide) (hts _ flX11_22) (fun _ h => h) rfl dX11_isLine_195 ?_
          refine lv_iload_n hx hb dX11_isLine_198 rfl (lv_at hl 3 rfl) ?_
          refine ln_iald (v := (((upd (m_rd u1) j (nI (10)))) j)) hx hb hK hP 5 (mw_c5 cy ad σ (mu_rd (mu_rf (mu_rt u1 (nI (s_n τ))) (nI (s_m τ))) (upd (m_rd u1) j (nI (10))))) (by omega) (by decide) rfl dX11_isLine_199 ?_
          refine ln_eq (show (((upd (m_rd u1) j (nI (10)))) j) = (nI (10)) from upd_s) ?_
          refine lv_tableIn (tgt := 326) hx hb dX11_isLine_200 (by decide) (by decide) rfl (by decide) ?_
          refine lv_aload_n hx hb dX11_isLine_326 rfl (lv_at hl 2 rfl) ?_
          refine lv_iload_n hx hb dX11_isLine_327 rfl (lv_at hl 3 rfl) ?_
          refine lv_iconst (v := nI 1) hx hb dX11_isLine_328 (by decide) ?_
          refine ln_iadd hx hb dX11_isLine_329 ?_
          refine lv_iconst (v := nI 0) hx hb dX11_isLine_330 (by decide) ?_
          refine lv_aload_n hx hb dX11_isLine_331 rfl (lv_at hl 2 rfl) ?_
          refine va_get (D := D) (ci := 10) (v := .int (nI (s_n τ))) (C := RX11) (T := TX11) (N := 31) hx hb hts ni11 hown hK hP 0 (mw_c0 cy ad σ (mu_rd (mu_rf (mu_rt u1 (nI (s_n τ))) (nI (s_m τ))) (upd (m_rd u1) j (nI (10))))) rfl 13 (by decide) (hts _ flX11_101) (fun _ h => h) rfl dX11_isLine_332 ?_
          refine lv_iconst (v := nI 1) hx hb dX11_isLine_335 (by decide) ?_
          refine lv_isub hx hb dX11_isLine_336 ?_
          refine cr_w (n := 3) (As := [.int (nI (j + 1)), .int (nI (0)), .int ((nI (s_n τ)) - (nI (1)))]) (rest := []) ⟨hx, hb, hml, hown, hts⟩ (k_X11_isNumber l D cy ad σ (mu_rd (mu_rf (mu_rt u1 (nI (s_n τ))) (nI (s_m τ))) (upd (m_rd u1) j (nI (10)))) (tE σ o) (j + 1) (nI (0)) ((nI (s_n τ)) - (nI (1))) hw epo1 hp1 (by omega)) gvX11_104 (by decide +kernel) ⟨Nat.le_of_ble_eq_true rfl, Nat.le_of_ble_eq_true rfl⟩ hK hN hP hD hS hA 0 (mw_c0 cy ad σ (mu_rd (mu_rf (mu_rt u1 (nI (s_n τ))) (nI (s_m τ))) (upd (m_rd u1) j (nI (10))))) rfl rfl hl.1 rfl (Nat.le_of_ble_eq_true rfl) dX11_isLine_337 ⟨Nat.zero_le _, Nat.zero_le _⟩ (fun _ => (mw_ad _ _ _ _).trans (mw_ad _ _ _ _).symm) (fun r23 u22 H locs hpu22 hP hD hS => ?_)
          obtain ⟨rfl, eyes22, eno22⟩ := hpu22
          exact rw_z hx hb hr hlocks hS u22 (by cases hg : gI σ (tE σ o) (nI (0)) ((nI (s_n τ)) - (nI (1))) with | false => exact LnP_f (by rw [rLine_k hk (by decide) (too_O (by decide)), slo_10, rNum_f (by rw [← gI_lt hn8]; exact hg)]) (eno22 hg) | true => exact LnP_t (x := (tE σ (tE σ o), 10, [tN σ (tE σ o)])) (by rw [rLine_k hk (by decide) (too_O (by decide)), slo_10, rNum_t (by rw [← gI_lt hn8]; exact hg)]; rfl) (RT_O hrt1 (Nat.le_of_ble_eq_true rfl) (eyes22 hg).1 (eyes22 hg).2.2.2.1 (eyes22 hg).2.2.2.2.1 (eyes22 hg).2.2.2.2.2.1) (by have hh := LB_1 (u := u22) (j := j) (k := 10) (g := upd (m_rd u1) j (nI 10)) (by rw [(eyes22 hg).2.2.2.2.2.2]; rfl) upd_s; exact ⟨hh.1, fun i hi => (hh.2 i hi).trans ((upd_o (Nat.ne_of_lt hi)).trans (congrFun esr1.2.2.2.2 i))⟩) ((eyes22 hg).2.2.1.trans esr1.1)) hP dX11_isLine_340
        · refine ln_eq (show (wI (wdN (tC σ o))) = (-1) from by rw [hk]; rfl) ?_
          refine ln_iast hx hb hK hP hD hS 5 (mw_c5 cy ad σ (mu_rf (mu_rt u1 (nI (s_n τ))) (nI (s_m τ)))) (by omega) (by decide) (mp_5 cy ad σ (mu_rf (mu_rt u1 (nI (s_n τ))) (nI (s_m τ))) j (-1)) dX11_isLine_193 (fun H locs hP hD hS => ?_)
          refine lv_aload_n hx hb dX11_isLine_194 rfl (lv_at hl 2 rfl) ?_
          refine va_get (D := D) (ci := 10) (v := .ref (ad 5)) (C := RX11) (T := TX11) (N := 31) hx hb hts ni11 hown hK hP 0 (mw_c0 cy ad σ (mu_rd (mu_rf (mu_rt u1 (nI (s_n τ))) (nI (s_m τ))) (upd (m_rd u1) j (-1)))) rfl 16 (by decide) (hts _ flX11_22) (fun _ h => h) rfl dX11_isLine_195 ?_
          refine lv_iload_n hx hb dX11_isLine_198 rfl (lv_at hl 3 rfl) ?_
          refine ln_iald (v := (((upd (m_rd u1) j (-1))) j)) hx hb hK hP 5 (mw_c5 cy ad σ (mu_rd (mu_rf (mu_rt u1 (nI (s_n τ))) (nI (s_m τ))) (upd (m_rd u1) j (-1)))) (by omega) (by decide) rfl dX11_isLine_199 ?_
          refine ln_eq (show (((upd (m_rd u1) j (-1))) j) = (-1) from upd_s) ?_
          refine lv_tableOut (tgt := 341) hx hb dX11_isLine_200 (Or.inl (by decide)) (by decide) ?_
          refine lv_aload_n hx hb dX11_isLine_341 rfl (lv_at hl 2 rfl) ?_
          refine cr_w (n := 0) (As := []) (rest := []) ⟨hx, hb, hml, hown, hts⟩ (k_X11_fails l D cy ad σ (mu_rd (mu_rf (mu_rt u1 (nI (s_n τ))) (nI (s_m τ))) (upd (m_rd u1) j (-1))) ) gvX11_97 (by decide +kernel) ⟨Nat.le_of_ble_eq_true rfl, Nat.le_of_ble_eq_true rfl⟩ hK hN hP hD hS hA 0 (mw_c0 cy ad σ (mu_rd (mu_rf (mu_rt u1 (nI (s_n τ))) (nI (s_m τ))) (upd (m_rd u1) j (-1)))) rfl rfl hl.1 rfl (Nat.le_of_ble_eq_true rfl) dX11_isLine_342 ⟨Nat.zero_le _, Nat.zero_le _⟩ (fun _ => (mw_ad _ _ _ _).trans (mw_ad _ _ _ _).symm) (fun r25 u24 H locs hpu24 hP hD hS => ?_)
          obtain ⟨rfl, efa24⟩ := hpu24
          exact rw_z hx hb hr hlocks hS u24 (LnP_f (rLine_n hk) (efa24.trans eta1)) hP dX11_isLine_345
      refine lv_icmp_ne (tgt := 192) hx hb dX11_isLine_185 (by decide) (fun c185 => ?_) (fun c185 => ?_)
      · refine lv_iload_n hx hb dX11_isLine_192 rfl (lv_at hl 1 rfl) ?_
        exact ln_eq (show (aW (tC σ o)) = (wI (wdN (tC σ o))) from aw_2 c185) h193
      · refine lv_iload_n hx hb dX11_isLine_188 rfl (lv_at hl 0 rfl) ?_
        refine lv_goto (tgt := 193) hx hb dX11_isLine_189 (by decide) ?_
        exact ln_eq (show (bW (tC σ o)) = (wI (wdN (tC σ o))) from aw_1 c185) h193
    refine lv_aload_n hx hb dX11_isLine_96 rfl (lv_at hl 1 rfl) ?_
    refine va_get (D := D) (ci := 10) (v := .long (m_tk u1)) (C := RX11) (T := TX11) (N := 31) hx hb hts ni11 hown hK hP 0 (mw_c0 cy ad σ (mu_rf (mu_rt u1 (nI (s_n τ))) (nI (s_m τ)))) rfl 8 (by decide) (hts _ flX11_77) (fun _ h => h) rfl dX11_isLine_97 ?_
    refine ll_eq (show (m_tk u1 : Int64) = tC σ o from etk1) ?_
    refine lv_ldc2 (v := 8059585273) hx hb hown (hts _ cnX11_122) dX11_isLine_100 ?_
    refine W.lcmp hx hb dX11_isLine_103 ?_
    refine lv_if_ne (tgt := 112) hx hb dX11_isLine_104 (by decide) (fun c104 => ?_) (fun c104 => ?_)
    · refine lv_aload_n hx hb dX11_isLine_112 rfl (lv_at hl 1 rfl) ?_
      refine va_get (D := D) (ci := 10) (v := .long (m_tk u1)) (C := RX11) (T := TX11) (N := 31) hx hb hts ni11 hown hK hP 0 (mw_c0 cy ad σ (mu_rf (mu_rt u1 (nI (s_n τ))) (nI (s_m τ)))) rfl 8 (by decide) (hts _ flX11_77) (fun _ h => h) rfl dX11_isLine_113 ?_
      refine ll_eq (show (m_tk u1 : Int64) = tC σ o from etk1) ?_
      refine lv_ldc2 (v := 10266269) hx hb hown (hts _ cnX11_124) dX11_isLine_116 ?_
      refine W.lcmp hx hb dX11_isLine_119 ?_
      refine lv_if_ne (tgt := 128) hx hb dX11_isLine_120 (by decide) (fun c120 => ?_) (fun c120 => ?_)
      · refine lv_aload_n hx hb dX11_isLine_128 rfl (lv_at hl 1 rfl) ?_
        refine va_get (D := D) (ci := 10) (v := .long (m_tk u1)) (C := RX11) (T := TX11) (N := 31) hx hb hts ni11 hown hK hP 0 (mw_c0 cy ad σ (mu_rf (mu_rt u1 (nI (s_n τ))) (nI (s_m τ)))) rfl 8 (by decide) (hts _ flX11_77) (fun _ h => h) rfl dX11_isLine_129 ?_
        refine ll_eq (show (m_tk u1 : Int64) = tC σ o from etk1) ?_
        refine lv_ldc2 (v := 5879) hx hb hown (hts _ cnX11_126) dX11_isLine_132 ?_
        refine W.lcmp hx hb dX11_isLine_135 ?_
        refine lv_if_ne (tgt := 144) hx hb dX11_isLine_136 (by decide) (fun c136 => ?_) (fun c136 => ?_)
        · refine lv_aload_n hx hb dX11_isLine_144 rfl (lv_at hl 1 rfl) ?_
          refine va_get (D := D) (ci := 10) (v := .long (m_tk u1)) (C := RX11) (T := TX11) (N := 31) hx hb hts ni11 hown hK hP 0 (mw_c0 cy ad σ (mu_rf (mu_rt u1 (nI (s_n τ))) (nI (s_m τ)))) rfl 8 (by decide) (hts _ flX11_77) (fun _ h => h) rfl dX11_isLine_145 ?_
          refine ll_eq (show (m_tk u1 : Int64) = tC σ o from etk1) ?_
          refine lv_ldc2 (v := 459791) hx hb hown (hts _ cnX11_128) dX11_isLine_148 ?_
          refine W.lcmp hx hb dX11_isLine_151 ?_
          refine lv_if_ne (tgt := 160) hx hb dX11_isLine_152 (by decide) (fun c152 => ?_) (fun c152 => ?_)
          · refine lv_aload_n hx hb dX11_isLine_160 rfl (lv_at hl 1 rfl) ?_
            refine va_get (D := D) (ci := 10) (v := .long (m_tk u1)) (C := RX11) (T := TX11) (N := 31) hx hb hts ni11 hown hK hP 0 (mw_c0 cy ad σ (mu_rf (mu_rt u1 (nI (s_n τ))) (nI (s_m τ)))) rfl 8 (by decide) (hts _ flX11_77) (fun _ h => h) rfl dX11_isLine_161 ?_
            refine ll_eq (show (m_tk u1 : Int64) = tC σ o from etk1) ?_
            refine lv_ldc2 (v := 309156998) hx hb hown (hts _ cnX11_130) dX11_isLine_164 ?_
            refine W.lcmp hx hb dX11_isLine_167 ?_
            refine lv_if_ne (tgt := 176) hx hb dX11_isLine_168 (by decide) (fun c168 => ?_) (fun c168 => ?_)
            · refine lv_iconst (v := -1) hx hb dX11_isLine_176 (by decide) ?_
              exact ln_eq (show (-1) = (bW (tC σ o)) from by rw [bW, if_neg (fun z => c104 ((lg_cmp_0 _ _).mpr z)), if_neg (fun z => c120 ((lg_cmp_0 _ _).mpr z)), if_neg (fun z => c136 ((lg_cmp_0 _ _).mpr z)), if_neg (fun z => c152 ((lg_cmp_0 _ _).mpr z)), if_neg (fun z => c168 ((lg_cmp_0 _ _).mpr z))]) h177
            · refine lv_bipush (v := nI 10) hx hb dX11_isLine_171 (by decide) ?_
              refine lv_goto (tgt := 177) hx hb dX11_isLine_173 (by decide) ?_
              exact ln_eq (show (nI (10)) = (bW (tC σ o)) from by rw [bW, if_neg (fun z => c104 ((lg_cmp_0 _ _).mpr z)), if_neg (fun z => c120 ((lg_cmp_0 _ _).mpr z)), if_neg (fun z => c136 ((lg_cmp_0 _ _).mpr z)), if_neg (fun z => c152 ((lg_cmp_0 _ _).mpr z)), if_pos ((lg_cmp_0 _ _).mp c168)]; rfl) h177
          · refine lv_bipush (v := nI 9) hx hb dX11_isLine_155 (by decide) ?_
            refine lv_goto (tgt := 177) hx hb dX11_isLine_157 (by decide) ?_
            exact ln_eq (show (nI (9)) = (bW (tC σ o)) from by rw [bW, if_neg (fun z => c104 ((lg_cmp_0 _ _).mpr z)), if_neg (fun z => c120 ((lg_cmp_0 _ _).mpr z)), if_neg (fun z => c136 ((lg_cmp_0 _ _).mpr z)), if_pos ((lg_cmp_0 _ _).mp c152)]; rfl) h177
        · refine lv_bipush (v := nI 8) hx hb dX11_isLine_139 (by decide) ?_
          refine lv_goto (tgt := 177) hx hb dX11_isLine_141 (by decide) ?_
          exact ln_eq (show (nI (8)) = (bW (tC σ o)) from by rw [bW, if_neg (fun z => c104 ((lg_cmp_0 _ _).mpr z)), if_neg (fun z => c120 ((lg_cmp_0 _ _).mpr z)), if_pos ((lg_cmp_0 _ _).mp c136)]; rfl) h177
      · refine lv_bipush (v := nI 7) hx hb dX11_isLine_123 (by decide) ?_
        refine lv_goto (tgt := 177) hx hb dX11_isLine_125 (by decide) ?_
        exact ln_eq (show (nI (7)) = (bW (tC σ o)) from by rw [bW, if_neg (fun z => c104 ((lg_cmp_0 _ _).mpr z)), if_pos ((lg_cmp_0 _ _).mp c120)]; rfl) h177
    · refine lv_bipush (v := nI 6) hx hb dX11_isLine_107 (by decide) ?_
      refine lv_goto (tgt := 177) hx hb dX11_isLine_109 (by decide) ?_
      exact ln_eq (show (nI (6)) = (bW (tC σ o)) from by rw [bW, if_pos ((lg_cmp_0 _ _).mp c104)]; rfl) h177
  refine lv_aload_n hx hb dX11_isLine_4 rfl (lv_at hl 0 rfl) ?_
  refine va_get (D := D) (ci := 10) (v := .long (m_tk u1)) (C := RX11) (T := TX11) (N := 31) hx hb hts ni11 hown hK hP 0 (mw_c0 cy ad σ (mu_rf (mu_rt u1 (nI (s_n τ))) (nI (s_m τ)))) rfl 8 (by decide) (hts _ flX11_77) (fun _ h => h) rfl dX11_isLine_5 ?_
  refine ll_eq (show (m_tk u1 : Int64) = tC σ o from etk1) ?_
  refine lv_ldc2 (v := 232608281) hx hb hown (hts _ cnX11_110) dX11_isLine_8 ?_
  refine W.lcmp hx hb dX11_isLine_11 ?_
  refine lv_if_ne (tgt := 19) hx hb dX11_isLine_12 (by decide) (fun c12 => ?_) (fun c12 => ?_)
  · refine lv_aload_n hx hb dX11_isLine_19 rfl (lv_at hl 0 rfl) ?_
    refine va_get (D := D) (ci := 10) (v := .long (m_tk u1)) (C := RX11) (T := TX11) (N := 31) hx hb hts ni11 hown hK hP 0 (mw_c0 cy ad σ (mu_rf (mu_rt u1 (nI (s_n τ))) (nI (s_m τ)))) rfl 8 (by decide) (hts _ flX11_77) (fun _ h => h) rfl dX11_isLine_20 ?_
    refine ll_eq (show (m_tk u1 : Int64) = tC σ o from etk1) ?_
    refine lv_ldc2 (v := 1758676) hx hb hown (hts _ cnX11_112) dX11_isLine_23 ?_
    refine W.lcmp hx hb dX11_isLine_26 ?_
    refine lv_if_ne (tgt := 34) hx hb dX11_isLine_27 (by decide) (fun c27 => ?_) (fun c27 => ?_)
    · refine lv_aload_n hx hb dX11_isLine_34 rfl (lv_at hl 0 rfl) ?_
      refine va_get (D := D) (ci := 10) (v := .long (m_tk u1)) (C := RX11) (T := TX11) (N := 31) hx hb hts ni11 hown hK hP 0 (mw_c0 cy ad σ (mu_rf (mu_rt u1 (nI (s_n τ))) (nI (s_m τ)))) rfl 8 (by decide) (hts _ flX11_77) (fun _ h => h) rfl dX11_isLine_35 ?_
      refine ll_eq (show (m_tk u1 : Int64) = tC σ o from etk1) ?_
      refine lv_ldc2 (v := 1162559) hx hb hown (hts _ cnX11_114) dX11_isLine_38 ?_
      refine W.lcmp hx hb dX11_isLine_41 ?_
      refine lv_if_ne (tgt := 49) hx hb dX11_isLine_42 (by decide) (fun c42 => ?_) (fun c42 => ?_)
      · refine lv_aload_n hx hb dX11_isLine_49 rfl (lv_at hl 0 rfl) ?_
        refine va_get (D := D) (ci := 10) (v := .long (m_tk u1)) (C := RX11) (T := TX11) (N := 31) hx hb hts ni11 hown hK hP 0 (mw_c0 cy ad σ (mu_rf (mu_rt u1 (nI (s_n τ))) (nI (s_m τ)))) rfl 8 (by decide) (hts _ flX11_77) (fun _ h => h) rfl dX11_isLine_50 ?_
        refine ll_eq (show (m_tk u1 : Int64) = tC σ o from etk1) ?_
        refine lv_ldc2 (v := 10502357) hx hb hown (hts _ cnX11_116) dX11_isLine_53 ?_
        refine W.lcmp hx hb dX11_isLine_56 ?_
        refine lv_if_ne (tgt := 64) hx hb dX11_isLine_57 (by decide) (fun c57 => ?_) (fun c57 => ?_)
        · refine lv_aload_n hx hb dX11_isLine_64 rfl (lv_at hl 0 rfl) ?_
          refine va_get (D := D) (ci := 10) (v := .long (m_tk u1)) (C := RX11) (T := TX11) (N := 31) hx hb hts ni11 hown hK hP 0 (mw_c0 cy ad σ (mu_rf (mu_rt u1 (nI (s_n τ))) (nI (s_m τ)))) rfl 8 (by decide) (hts _ flX11_77) (fun _ h => h) rfl dX11_isLine_65 ?_
          refine ll_eq (show (m_tk u1 : Int64) = tC σ o from etk1) ?_
          refine lv_ldc2 (v := 3130427) hx hb hown (hts _ cnX11_118) dX11_isLine_68 ?_
          refine W.lcmp hx hb dX11_isLine_71 ?_
          refine lv_if_ne (tgt := 79) hx hb dX11_isLine_72 (by decide) (fun c72 => ?_) (fun c72 => ?_)
          · refine lv_aload_n hx hb dX11_isLine_79 rfl (lv_at hl 0 rfl) ?_
            refine va_get (D := D) (ci := 10) (v := .long (m_tk u1)) (C := RX11) (T := TX11) (N := 31) hx hb hts ni11 hown hK hP 0 (mw_c0 cy ad σ (mu_rf (mu_rt u1 (nI (s_n τ))) (nI (s_m τ)))) rfl 8 (by decide) (hts _ flX11_77) (fun _ h => h) rfl dX11_isLine_80 ?_
            refine ll_eq (show (m_tk u1 : Int64) = tC σ o from etk1) ?_
            refine lv_ldc2 (v := 6683990) hx hb hown (hts _ cnX11_120) dX11_isLine_83 ?_
            refine W.lcmp hx hb dX11_isLine_86 ?_
            refine lv_if_ne (tgt := 94) hx hb dX11_isLine_87 (by decide) (fun c87 => ?_) (fun c87 => ?_)
            · refine lv_iconst (v := -1) hx hb dX11_isLine_94 (by decide) ?_
              exact ln_eq (show (-1) = (aW (tC σ o)) from by rw [aW, if_neg (fun z => c12 ((lg_cmp_0 _ _).mpr z)), if_neg (fun z => c27 ((lg_cmp_0 _ _).mpr z)), if_neg (fun z => c42 ((lg_cmp_0 _ _).mpr z)), if_neg (fun z => c57 ((lg_cmp_0 _ _).mpr z)), if_neg (fun z => c72 ((lg_cmp_0 _ _).mpr z)), if_neg (fun z => c87 ((lg_cmp_0 _ _).mpr z))]) h95
            · refine lv_iconst (v := nI 5) hx hb dX11_isLine_90 (by decide) ?_
              refine lv_goto (tgt := 95) hx hb dX11_isLine_91 (by decide) ?_
              exact ln_eq (show (nI (5)) = (aW (tC σ o)) from by rw [aW, if_neg (fun z => c12 ((lg_cmp_0 _ _).mpr z)), if_neg (fun z => c27 ((lg_cmp_0 _ _).mpr z)), if_neg (fun z => c42 ((lg_cmp_0 _ _).mpr z)), if_neg (fun z => c57 ((lg_cmp_0 _ _).mpr z)), if_neg (fun z => c72 ((lg_cmp_0 _ _).mpr z)), if_pos ((lg_cmp_0 _ _).mp c87)]; rfl) h95
          · refine lv_iconst (v := nI 4) hx hb dX11_isLine_75 (by decide) ?_
            refine lv_goto (tgt := 95) hx hb dX11_isLine_76 (by decide) ?_
            exact ln_eq (show (nI (4)) = (aW (tC σ o)) from by rw [aW, if_neg (fun z => c12 ((lg_cmp_0 _ _).mpr z)), if_neg (fun z => c27 ((lg_cmp_0 _ _).mpr z)), if_neg (fun z => c42 ((lg_cmp_0 _ _).mpr z)), if_neg (fun z => c57 ((lg_cmp_0 _ _).mpr z)), if_pos ((lg_cmp_0 _ _).mp c72)]; rfl) h95
        · refine lv_iconst (v := nI 3) hx hb dX11_isLine_60 (by decide) ?_
          refine lv_goto (tgt := 95) hx hb dX11_isLine_61 (by decide) ?_
          exact ln_eq (show (nI (3)) = (aW (tC σ o)) from by rw [aW, if_neg (fun z => c12 ((lg_cmp_0 _ _).mpr z)), if_neg (fun z => c27 ((lg_cmp_0 _ _).mpr z)), if_neg (fun z => c42 ((lg_cmp_0 _ _).mpr z)), if_pos ((lg_cmp_0 _ _).mp c57)]; rfl) h95
      · refine lv_iconst (v := nI 2) hx hb dX11_isLine_45 (by decide) ?_
        refine lv_goto (tgt := 95) hx hb dX11_isLine_46 (by decide) ?_
        exact ln_eq (show (nI (2)) = (aW (tC σ o)) from by rw [aW, if_neg (fun z => c12 ((lg_cmp_0 _ _).mpr z)), if_neg (fun z => c27 ((lg_cmp_0 _ _).mpr z)), if_pos ((lg_cmp_0 _ _).mp c42)]; rfl) h95
    · refine lv_iconst (v := nI 1) hx hb dX11_isLine_30 (by decide) ?_
      refine lv_goto (tgt := 95) hx hb dX11_isLine_31 (by decide) ?_
      exact ln_eq (show (nI (1)) = (aW (tC σ o)) from by rw [aW, if_neg (fun z => c12 ((lg_cmp_0 _ _).mpr z)), if_pos ((lg_cmp_0 _ _).mp c27)]; rfl) h95
  · refine lv_iconst (v := nI 0) hx hb dX11_isLine_15 (by decide) ?_
    refine lv_goto (tgt := 95) hx hb dX11_isLine_16 (by decide) ?_
    exact ln_eq (show (nI (0)) = (aW (tC σ o)) from by rw [aW, if_pos ((lg_cmp_0 _ _).mp c12)]; rfl) h95
