def raN (B : Bf) (ma ah bw li : Nat → Int32) : Prop := (∀ v, v < 2048 → ma v = oI (b_d B v)) ∧ raM B ah bw li
theorem raN_push {B : Bf} {ma ah bw li : Nat → Int32} (h : raN B ma ah bw li) {s da f x : Nat} : raN (push B s da f x) (upd ma (stp s f x) (nI (da + 1))) (upd ah (stp s f x) (nI s)) (upd bw (stp s f x) (nI (256 * f + x))) (upd li (b_l B) (nI (stp s f x))) := by
  refine ⟨fun v hv => ?_, raM_push h.2⟩
  show upd _ _ _ v = oI (updO _ _ _ v)
  unfold upd updO
  by_cases e : v = stp s f x
  · rw [if_pos e, if_pos e]; rfl
  · rw [if_neg e, if_neg e]; exact h.1 v hv
theorem raN_0 {s : Nat} {ma ah bw li : Nat → Int32} (h : ∀ v, v < 2048 → ma v = -1) : raN (B0 s) (upd ma s (nI 0)) ah bw (upd li 0 (nI s)) := by
  refine ⟨fun v hv => ?_, fun v k hk => ?_, fun j hj => ?_⟩
  · show upd _ _ _ v = oI (if v = s then some 0 else none)
    unfold upd
    by_cases e : v = s
    · rw [if_pos e, if_pos e]; rfl
    · rw [if_neg e, if_neg e, h v hv]; rfl
  · have hk : (if v = s then some 0 else none) = some (k + 1) := hk
    by_cases e : v = s
    · rw [if_pos e] at hk; cases hk
    · rw [if_neg e] at hk; cases hk
  · have hj : j < 1 := hj
    rw [show j = 0 by omega]; rfl
theorem bd_lt {B : Bf} (h : bInv B) {v k : Nat} (hd : b_d B v = some k) : k < 2048 := by
  obtain ⟨j, hj, hq⟩ := h.2.2.2.1 v k hd
  obtain ⟨-, k', hk, hkj⟩ := h.2.1 j hj
  rw [hq, hd] at hk
  have := Option.some.inj hk
  have := h.1
  omega
theorem expX_1 (σ : Sg) (s da f : Nat) (B : Bf) : expX σ s da f B 1 = B := by
  show tryE σ s da f 0 B = B
  rw [tryE, if_neg (by rw [edge_0]; exact fun q => absurd q.2 (by decide))]
theorem tryE_t {σ : Sg} {s da f x : Nat} {B : Bf} (h : b_d B (stp s f x) = none) (e : edge σ s f x = true) : push B s da f x = tryE σ s da f x B := by rw [tryE, if_pos ⟨h, e⟩]
theorem tryE_f1 {σ : Sg} {s da f x : Nat} {B : Bf} (h : ¬ b_d B (stp s f x) = none) : B = tryE σ s da f x B := by rw [tryE, if_neg (fun q => h q.1)]
theorem tryE_f2 {σ : Sg} {s da f x : Nat} {B : Bf} (e : edge σ s f x = false) : B = tryE σ s da f x B := by rw [tryE, if_neg (fun q => by rw [e] at q; exact absurd q.2 (by decide))]
theorem m_eta_ah (x : Ms) : mu_ah x (m_ah x) = x := rfl
theorem m_eta_by (x : Ms) : mu_by x (m_by x) = x := rfl
theorem m_eta_li (x : Ms) : mu_li x (m_li x) = x := rfl
theorem st0_lt {σ : Sg} (hw : wfS σ) : st0 σ < 2048 := by have := ov_lt hw; have := mo_lt hw; unfold st0; omega
set_option maxHeartbeats 4000000 in
set_option maxRecDepth 100000 in
theorem k_X11_goThrough (l : Launch) (D : va_G) (cy : Nat → ClassId) (ad : Nat → Nat) (σ : Sg) (T : Ms) (sn bk : Nat) (hw : wfS σ) (h1 : sn < 2 ^ s_n σ) (h2 : bk < 2) : MW l yX11_goThrough qX11_goThrough 4 [.ref (ad 0), .int (nI (sn)), .int (nI (bk))] D cy (mw cy ad σ T) (fun (r : Int32) (u : Ms) => r = oI (fewB σ sn bk).1 ∧ raN (fewB σ sn bk).2 (m_ma u) (m_ah u) (m_by u) (m_li u)) (fun u : Ms => mw cy ad (σ) u) := by
  intro sz
  refine Met.ofW (cc := cX11_goThrough) (maxL := 10) (ret := (some .int)) (by decide) rfl ?_
  intro p e s m args below meth c s₁ B hml hv
  obtain ⟨rfl, rfl, hP, hK, hN, hD0⟩ := hv
  have hx := B.exec
  have hb := B.bytes
  have hr := B.returns
  have hlocks := B.notSynchronized
  have hts : ∀ cq ∈ tg, cq.before ([.ref (ad 0), .int (nI (sn)), .int (nI (bk))] : List Value).toArray s = true := fun cq h => atoms_spec (ws := qX11_goThrough) B.pre cq (List.mem_cons_of_mem _ h)
  have hown : s.vm.findClass RX11 = some m.cls := findClass_of_methodNamed B.named
  have hD := hD0.self (sz := s.heap.size)
  generalize hAe : va_A (mw cy ad σ T) s.heap.size = A at hD ⊢
  have hA : ∀ q : Nat, s.heap.size ≤ q → A q := fun q h => by rw [← hAe]; exact Or.inr h
  have hS : va_S A s.heap s.heap [] := va_S.rf
  have hl := lv_entry ([.ref (ad 0), .int (nI (sn)), .int (nI (bk))]) (n := 10) (Nat.le_of_ble_eq_true rfl)
  rw [lg_entry_eq]
  generalize (lg_sl ([.ref (ad 0), .int (nI (sn)), .int (nI (bk))]) ++ List.replicate (10 - (lg_sl ([.ref (ad 0), .int (nI (sn)), .int (nI (bk))])).length) Slot.unset).toArray = ls at hl ⊢
  have hl : lv_has ls 10 [(0, .ref (ad 0)), (1, .int (nI (sn))), (2, .int (nI (bk)))] := hl
  have hw1 := hw.1
  have hw2 := hw.2.1
  have hp8 := pw_8 hw1
  have hpp := pw_pos (s_n σ)
  have hov := ov_lt hw
  have hmo := mo_lt hw
  have hof := of_lt hw
  have hs0 := st0_lt hw
  refine lv_iconst (v := nI 0) hx hb dX11_goThrough_0 (by decide) ?_
  refine lv_istore_n (lv' := [(3, .int (nI (0))), (0, .ref (ad 0)), (1, .int (nI (sn))), (2, .int (nI (bk)))]) hx hb dX11_goThrough_1 rfl hl (by decide) rfl (fun ls hl => ?_)
  have l0 : ∀ (k_l0 j : Nat) (ls : Array Slot) (H : Heap) (locs : List Loc) (ma : Nat → Int32), j + k_l0 = 2048 → (∀ v, v < j → ma v = -1) → va_P D vwCl (mw cy ad σ (mu_ma T ma)) H → va_D A (mw cy ad σ (mu_ma T ma)) → va_S A s.heap H locs → lv_has ls 10 [(3, .int (nI (j))), (0, .ref (ad 0)), (1, .int (nI (sn))), (2, .int (nI (bk)))] → W p l e (headSpec qX11_goThrough (rq 4)).room s m ([.ref (ad 0), .int (nI (sn)), .int (nI (bk))] : List Value).toArray below meth c H locs 0 0 (MQ below (va_Qi (fun (r : Int32) (u : Ms) => r = oI (fewB σ sn bk).1 ∧ raN (fewB σ sn bk).2 (m_ma u) (m_ah u) (m_by u) (m_li u)) (fun u t => va_P D vwCl ((fun u : Ms => mw cy ad (σ) u) u) t.heap) A) ([.ref (ad 0), .int (nI (sn)), .int (nI (bk))] : List Value).toArray s 0 0 A) (F0 m 2 ls []) := by
    intro k_l0
    induction k_l0 with
    | zero =>
      intro j ls H locs ma hi_l0 hm1 hP hD hS hl
      refine lv_iload_n hx hb dX11_goThrough_2 rfl (lv_at hl 0 rfl) ?_
      refine lv_sipush (v := nI 2048) hx hb dX11_goThrough_3 (by decide) ?_
      refine ln_icmp_ge (tgt := 22) hx hb dX11_goThrough_6 (by decide) (by omega) (by omega) (fun c6 => ?_) (fun c6 => ?_)
      · have hm2 : ∀ v, v < 2048 → ma v = -1 := fun v hv => hm1 v (by omega)
        refine lv_sipush (v := nI 256) hx hb dX11_goThrough_22 (by decide) ?_
        refine lv_aload_n hx hb dX11_goThrough_25 rfl (lv_at hl 1 rfl) ?_
        refine va_get (D := D) (ci := 10) (v := .int (nI (s_mo σ))) (C := RX11) (T := TX11) (N := 31) hx hb hts ni11 hown hK hP 0 (mw_c0 cy ad σ (mu_ma T ma)) rfl 18 (by decide) (hts _ flX11_158) (fun _ h => h) rfl dX11_goThrough_26 ?_
        refine ln_imul hx hb dX11_goThrough_29 ?_
        refine lv_aload_n hx hb dX11_goThrough_30 rfl (lv_at hl 1 rfl) ?_
        refine va_get (D := D) (ci := 10) (v := .int (nI (s_ov σ))) (C := RX11) (T := TX11) (N := 31) hx hb hts ni11 hown hK hP 0 (mw_c0 cy ad σ (mu_ma T ma)) rfl 17 (by decide) (hts _ flX11_155) (fun _ h => h) rfl dX11_goThrough_31 ?_
        refine ln_iadd hx hb dX11_goThrough_34 ?_
        refine ln_nat (show (256 * (s_mo σ)) + (s_ov σ) = st0 σ from rfl) ?_
        refine lv_istore_n (lv' := [(3, .int (nI (st0 σ))), (0, .ref (ad 0)), (1, .int (nI (sn))), (2, .int (nI (bk)))]) hx hb dX11_goThrough_35 rfl hl (by decide) rfl (fun ls hl => ?_)
        refine lv_iconst (v := nI 1) hx hb dX11_goThrough_36 (by decide) ?_
        refine lv_istore (lv' := [(4, .int (nI (1))), (3, .int (nI (st0 σ))), (0, .ref (ad 0)), (1, .int (nI (sn))), (2, .int (nI (bk)))]) hx hb dX11_goThrough_37 hl (by decide) rfl (fun ls hl => ?_)
        refine lv_aload_n hx hb dX11_goThrough_39 rfl (lv_at hl 2 rfl) ?_
        refine va_get (D := D) (ci := 10) (v := .ref (ad 12)) (C := RX11) (T := TX11) (N := 31) hx hb hts ni11 hown hK hP 0 (mw_c0 cy ad σ (mu_ma T ma)) rfl 29 (by decide) (hts _ flX11_44) (fun _ h => h) rfl dX11_goThrough_40 ?_
        refine lv_iconst (v := nI 0) hx hb dX11_goThrough_43 (by decide) ?_
        refine lv_iload_n hx hb dX11_goThrough_44 rfl (lv_at hl 1 rfl) ?_
        refine ln_iast hx hb hK hP hD hS 12 (mw_c12 cy ad σ (mu_ma T ma)) (by omega) (by decide) (mp_12 cy ad σ (mu_ma T ma) 0 (nI (st0 σ))) dX11_goThrough_45 (fun H locs hP hD hS => ?_)
        refine lv_aload_n hx hb dX11_goThrough_46 rfl (lv_at hl 2 rfl) ?_
        refine va_get (D := D) (ci := 10) (v := .ref (ad 9)) (C := RX11) (T := TX11) (N := 31) hx hb hts ni11 hown hK hP 0 (mw_c0 cy ad σ (mu_li (mu_ma T ma) (upd (m_li T) 0 (nI (st0 σ))))) rfl 26 (by decide) (hts _ flX11_35) (fun _ h => h) rfl dX11_goThrough_47 ?_
        refine lv_iload_n hx hb dX11_goThrough_50 rfl (lv_at hl 1 rfl) ?_
        refine lv_iconst (v := nI 0) hx hb dX11_goThrough_51 (by decide) ?_
        refine ln_iast hx hb hK hP hD hS 9 (mw_c9 cy ad σ (mu_li (mu_ma T ma) (upd (m_li T) 0 (nI (st0 σ))))) (by omega) (by decide) ((mp_9 cy ad σ (mu_li (mu_ma T ma) (upd (m_li T) 0 (nI (st0 σ)))) (st0 σ) (nI (0))).trans (congrArg (fun z => mw cy ad σ z) (by rw [mx_ma_li, mc_ma]))) dX11_goThrough_52 (fun H locs hP hD hS => ?_)
        refine lv_iconst (v := nI 0) hx hb dX11_goThrough_53 (by decide) ?_
        refine lv_istore (lv' := [(5, .int (nI (0))), (4, .int (nI (1))), (3, .int (nI (st0 σ))), (0, .ref (ad 0)), (1, .int (nI (sn))), (2, .int (nI (bk)))]) hx hb dX11_goThrough_54 hl (by decide) rfl (fun ls hl => ?_)
        have lp : ∀ (k_lp i : Nat) (ls : Array Slot) (H : Heap) (locs : List Loc) (B : Bf) (ma li ah bw : Nat → Int32), i + k_lp = 2049 → bInv B → i ≤ b_l B → raN B ma ah bw li → bfs σ (goalN sn bk) k_lp i B = fewB σ sn bk → va_P D vwCl (mw cy ad σ (mu_by (mu_ah (mu_li (mu_ma T ma) li) ah) bw)) H → va_D A (mw cy ad σ (mu_by (mu_ah (mu_li (mu_ma T ma) li) ah) bw)) → va_S A s.heap H locs → lv_has ls 10 [(5, .int (nI (i))), (4, .int (nI (b_l B))), (0, .ref (ad 0)), (1, .int (nI (sn))), (2, .int (nI (bk)))] → W p l e (headSpec qX11_goThrough (rq 4)).room s m ([.ref (ad 0), .int (nI (sn)), .int (nI (bk))] : List Value).toArray below meth c H locs 0 0 (MQ below (va_Qi (fun (r : Int32) (u : Ms) => r = oI (fewB σ sn bk).1 ∧ raN (fewB σ sn bk).2 (m_ma u) (m_ah u) (m_by u) (m_li u)) (fun u t => va_P D vwCl ((fun u : Ms => mw cy ad (σ) u) u) t.heap) A) ([.ref (ad 0), .int (nI (sn)), .int (nI (bk))] : List Value).toArray s 0 0 A) (F0 m 56 ls []) := by
          intro k_lp
          induction k_lp with
          | zero =>
            intro i ls H locs B ma li ah bw hi_lp hB hil hra hbf hP hD hS hl
            have hbl := hB.1
            refine lv_iload hx hb dX11_goThrough_56 (lv_at hl 0 rfl) ?_
            refine lv_iload hx hb dX11_goThrough_58 (lv_at hl 1 rfl) ?_
            refine ln_icmp_ge (tgt := 237) hx hb dX11_goThrough_60 (by decide) (by omega) (by omega) (fun c60 => ?_) (fun c60 => ?_)
            · refine lv_iconst (v := -1) hx hb dX11_goThrough_237 (by decide) ?_
              exact rw_i hx hb hr hlocks hS (mu_by (mu_ah (mu_li (mu_ma T ma) li) ah) bw) (⟨by first | (rw [← hbf, bfs]; rfl; done) | (rw [← hbf, bfs, if_neg (by omega)]; rfl), by first | (rw [← hbf, bfs]; exact hra) | (rw [← hbf, bfs, if_neg (by omega)]; exact hra)⟩) hP dX11_goThrough_238
            · exact absurd c60 (by omega)
          | succ k_lp ih_lp =>
            intro i ls H locs B ma li ah bw hi_lp hB hil hra hbf hP hD hS hl
            have hbl := hB.1
            refine lv_iload hx hb dX11_goThrough_56 (lv_at hl 0 rfl) ?_
            refine lv_iload hx hb dX11_goThrough_58 (lv_at hl 1 rfl) ?_
            refine ln_icmp_ge (tgt := 237) hx hb dX11_goThrough_60 (by decide) (by omega) (by omega) (fun c60 => ?_) (fun c60 => ?_)
            · refine lv_iconst (v := -1) hx hb dX11_goThrough_237 (by decide) ?_
              exact rw_i hx hb hr hlocks hS (mu_by (mu_ah (mu_li (mu_ma T ma) li) ah) bw) (⟨by first | (rw [← hbf, bfs]; rfl; done) | (rw [← hbf, bfs, if_neg (by omega)]; rfl), by first | (rw [← hbf, bfs]; exact hra) | (rw [← hbf, bfs, if_neg (by omega)]; exact hra)⟩) hP dX11_goThrough_238
            · obtain ⟨hsv, da, hda, hdai⟩ := hB.2.1 i c60
              have hsa : b_q B i &&& 255 < 256 := Nat.lt_of_le_of_lt Nat.and_le_right (by decide)
              refine lv_aload_n hx hb dX11_goThrough_63 rfl (lv_at hl 2 rfl) ?_
              refine va_get (D := D) (ci := 10) (v := .ref (ad 12)) (C := RX11) (T := TX11) (N := 31) hx hb hts ni11 hown hK hP 0 (mw_c0 cy ad σ (mu_by (mu_ah (mu_li (mu_ma T ma) li) ah) bw)) rfl 29 (by decide) (hts _ flX11_44) (fun _ h => h) rfl dX11_goThrough_64 ?_
              refine lv_iload hx hb dX11_goThrough_67 (lv_at hl 0 rfl) ?_
              refine ln_iald (v := (li i)) hx hb hK hP 12 (mw_c12 cy ad σ (mu_by (mu_ah (mu_li (mu_ma T ma) li) ah) bw)) (by omega) (by decide) rfl dX11_goThrough_69 ?_
              refine ln_eq (show (li i) = (nI (b_q B i)) from hra.2.2 i c60) ?_
              refine lv_istore (lv' := [(6, .int (nI (b_q B i))), (5, .int (nI (i))), (4, .int (nI (b_l B))), (0, .ref (ad 0)), (1, .int (nI (sn))), (2, .int (nI (bk)))]) hx hb dX11_goThrough_70 hl (by decide) rfl (fun ls hl => ?_)
              refine lv_iload hx hb dX11_goThrough_72 (lv_at hl 0 rfl) ?_
              refine lv_sipush (v := nI 255) hx hb dX11_goThrough_74 (by decide) ?_
              refine ln_iand hx hb dX11_goThrough_77 ?_
              refine lv_iload_n hx hb dX11_goThrough_78 rfl (lv_at hl 4 rfl) ?_
              refine lv_iload_n hx hb dX11_goThrough_79 rfl (lv_at hl 5 rfl) ?_
              refine cr_s (n := 3) (As := [.int (nI ((b_q B i) &&& 255)), .int (nI (sn)), .int (nI (bk))]) (rest := []) ⟨hx, hb, hml, hown, hts⟩ (k_X11_isOver l ((b_q B i) &&& 255) sn bk (by omega) (by omega) (by omega)) gsX11_217 (by decide +kernel) ⟨Nat.le_of_ble_eq_true rfl, Nat.le_of_ble_eq_true rfl⟩ rfl hl.1 rfl (Nat.le_of_ble_eq_true rfl) dX11_goThrough_80 ⟨Nat.zero_le _, Nat.zero_le _⟩ ?_
              refine lb_if_eq (tgt := 89) hx hb dX11_goThrough_83 (by decide) (fun c83 => ?_) (fun c83 => ?_)
              · refine lv_iconst (v := nI 0) hx hb dX11_goThrough_89 (by decide) ?_
                refine lv_istore (lv' := [(7, .int (nI (0))), (6, .int (nI (b_q B i))), (5, .int (nI (i))), (4, .int (nI (b_l B))), (0, .ref (ad 0)), (1, .int (nI (sn))), (2, .int (nI (bk)))]) hx hb dX11_goThrough_90 hl (by decide) rfl (fun ls hl => ?_)
                have lf : ∀ (k_lf f : Nat) (ls : Array Slot) (H : Heap) (locs : List Loc) (ma li ah bw : Nat → Int32), f + k_lf = s_m σ → raN (expF σ (b_q B i) da B f) ma ah bw li → va_P D vwCl (mw cy ad σ (mu_by (mu_ah (mu_li (mu_ma T ma) li) ah) bw)) H → va_D A (mw cy ad σ (mu_by (mu_ah (mu_li (mu_ma T ma) li) ah) bw)) → va_S A s.heap H locs → lv_has ls 10 [(7, .int (nI (f))), (4, .int (nI (b_l (expF σ (b_q B i) da B f)))), (6, .int (nI (b_q B i))), (5, .int (nI (i))), (0, .ref (ad 0)), (1, .int (nI (sn))), (2, .int (nI (bk)))] → W p l e (headSpec qX11_goThrough (rq 4)).room s m ([.ref (ad 0), .int (nI (sn)), .int (nI (bk))] : List Value).toArray below meth c H locs 0 0 (MQ below (va_Qi (fun (r : Int32) (u : Ms) => r = oI (fewB σ sn bk).1 ∧ raN (fewB σ sn bk).2 (m_ma u) (m_ah u) (m_by u) (m_li u)) (fun u t => va_P D vwCl ((fun u : Ms => mw cy ad (σ) u) u) t.heap) A) ([.ref (ad 0), .int (nI (sn)), .int (nI (bk))] : List Value).toArray s 0 0 A) (F0 m 92 ls []) := by
                  intro k_lf
                  induction k_lf with
                  | zero =>
                    intro f ls H locs ma li ah bw hi_lf hra hP hD hS hl
                    have hF := expF_inv (σ := σ) hB hsv hda hdai c60 hp8 (f := f) (by omega)
                    refine lv_iload hx hb dX11_goThrough_92 (lv_at hl 0 rfl) ?_
                    refine lv_aload_n hx hb dX11_goThrough_94 rfl (lv_at hl 4 rfl) ?_
                    refine va_get (D := D) (ci := 10) (v := .int (nI (s_m σ))) (C := RX11) (T := TX11) (N := 31) hx hb hts ni11 hown hK hP 0 (mw_c0 cy ad σ (mu_by (mu_ah (mu_li (mu_ma T ma) li) ah) bw)) rfl 2 (by decide) (hts _ flX11_55) (fun _ h => h) rfl dX11_goThrough_95 ?_
                    refine ln_icmp_ge (tgt := 231) hx hb dX11_goThrough_98 (by decide) (by omega) (by omega) (fun c98 => ?_) (fun c98 => ?_)
                    · have hBn := (expF_inv (σ := σ) hB hsv hda hdai c60 hp8 (f := s_m σ) hw2).1
                      have hl2 := (expF_inv (σ := σ) hB hsv hda hdai c60 hp8 (f := s_m σ) hw2).2.2.1
                      rw [show f = s_m σ by omega] at hra hl
                      have hln : i + 1 ≤ b_l (expF σ (b_q B i) da B (s_m σ)) := (by omega)
                      have hbn : bfs σ (goalN sn bk) k_lp (i + 1) (expF σ (b_q B i) da B (s_m σ)) = fewB σ sn bk := by rw [← hbf, bfs, if_pos c60, show goalN sn bk (b_q B i) = false from c83, hda]; rfl
                      have hl : lv_has ls 10 [(4, .int (nI (b_l (expF σ (b_q B i) da B (s_m σ))))), (6, .int (nI (b_q B i))), (5, .int (nI (i))), (0, .ref (ad 0)), (1, .int (nI (sn))), (2, .int (nI (bk)))] := lv_sub hl [1, 2, 3, 4, 5, 6] rfl
                      refine ln_iinc (lv' := [(5, .int (nI (i + 1))), (4, .int (nI (b_l (expF σ (b_q B i) da B (s_m σ))))), (6, .int (nI (b_q B i))), (0, .ref (ad 0)), (1, .int (nI (sn))), (2, .int (nI (bk)))]) hx hb dX11_goThrough_231 hl (k := 2) (n := 1) rfl (by decide) rfl (fun ls hl => ?_)
                      refine lv_goto (tgt := 56) hx hb dX11_goThrough_234 (by decide) ?_
                      have hl : lv_has ls 10 [(5, .int (nI (i + 1))), (4, .int (nI (b_l (expF σ (b_q B i) da B (s_m σ))))), (0, .ref (ad 0)), (1, .int (nI (sn))), (2, .int (nI (bk)))] := lv_sub hl [0, 1, 3, 4, 5] rfl
                      exact ih_lp (i + 1) ls _ _ _ _ _ _ _ (by omega) hBn hln hra hbn hP hD hS hl
                    · exact absurd c98 (by omega)
                  | succ k_lf ih_lf =>
                    intro f ls H locs ma li ah bw hi_lf hra hP hD hS hl
                    have hF := expF_inv (σ := σ) hB hsv hda hdai c60 hp8 (f := f) (by omega)
                    refine lv_iload hx hb dX11_goThrough_92 (lv_at hl 0 rfl) ?_
                    refine lv_aload_n hx hb dX11_goThrough_94 rfl (lv_at hl 4 rfl) ?_
                    refine va_get (D := D) (ci := 10) (v := .int (nI (s_m σ))) (C := RX11) (T := TX11) (N := 31) hx hb hts ni11 hown hK hP 0 (mw_c0 cy ad σ (mu_by (mu_ah (mu_li (mu_ma T ma) li) ah) bw)) rfl 2 (by decide) (hts _ flX11_55) (fun _ h => h) rfl dX11_goThrough_95 ?_
                    refine ln_icmp_ge (tgt := 231) hx hb dX11_goThrough_98 (by decide) (by omega) (by omega) (fun c98 => ?_) (fun c98 => ?_)
                    · exact absurd c98 (by omega)
                    · refine lv_iconst (v := nI 1) hx hb dX11_goThrough_101 (by decide) ?_
                      refine lv_istore (lv' := [(8, .int (nI (1))), (7, .int (nI (f))), (4, .int (nI (b_l (expF σ (b_q B i) da B f)))), (6, .int (nI (b_q B i))), (5, .int (nI (i))), (0, .ref (ad 0)), (1, .int (nI (sn))), (2, .int (nI (bk)))]) hx hb dX11_goThrough_102 hl (by decide) rfl (fun ls hl => ?_)
                      have lx : ∀ (k_lx x : Nat) (ls : Array Slot) (H : Heap) (locs : List Loc) (ma li ah bw : Nat → Int32), x + k_lx = 2 ^ s_n σ → 1 ≤ x → raN (expX σ (b_q B i) da f (expF σ (b_q B i) da B f) x) ma ah bw li → va_P D vwCl (mw cy ad σ (mu_by (mu_ah (mu_li (mu_ma T ma) li) ah) bw)) H → va_D A (mw cy ad σ (mu_by (mu_ah (mu_li (mu_ma T ma) li) ah) bw)) → va_S A s.heap H locs → lv_has ls 10 [(8, .int (nI (x))), (4, .int (nI (b_l (expX σ (b_q B i) da f (expF σ (b_q B i) da B f) x)))), (7, .int (nI (f))), (6, .int (nI (b_q B i))), (5, .int (nI (i))), (0, .ref (ad 0)), (1, .int (nI (sn))), (2, .int (nI (bk)))] → W p l e (headSpec qX11_goThrough (rq 4)).room s m ([.ref (ad 0), .int (nI (sn)), .int (nI (bk))] : List Value).toArray below meth c H locs 0 0 (MQ below (va_Qi (fun (r : Int32) (u : Ms) => r = oI (fewB σ sn bk).1 ∧ raN (fewB σ sn bk).2 (m_ma u) (m_ah u) (m_by u) (m_li u)) (fun u t => va_P D vwCl ((fun u : Ms => mw cy ad (σ) u) u) t.heap) A) ([.ref (ad 0), .int (nI (sn)), .int (nI (bk))] : List Value).toArray s 0 0 A) (F0 m 104 ls []) := by
                        intro k_lx
                        induction k_lx with
                        | zero =>
                          intro x ls H locs ma li ah bw hi_lx hx1 hra hP hD hS hl
                          have hX := expX_inv (σ := σ) hF.1 hsv hF.2.1 hdai (Nat.lt_of_lt_of_le c60 hF.2.2.1) (f := f) (by omega) (x := x) (by omega)
                          have hbx := hX.1.1
                          have hpf := pw_lt8 (k := f) (by omega)
                          refine lv_iload hx hb dX11_goThrough_104 (lv_at hl 0 rfl) ?_
                          refine lv_iconst (v := nI 1) hx hb dX11_goThrough_106 (by decide) ?_
                          refine lv_aload_n hx hb dX11_goThrough_107 rfl (lv_at hl 5 rfl) ?_
                          refine va_get (D := D) (ci := 10) (v := .int (nI (s_n σ))) (C := RX11) (T := TX11) (N := 31) hx hb hts ni11 hown hK hP 0 (mw_c0 cy ad σ (mu_by (mu_ah (mu_li (mu_ma T ma) li) ah) bw)) rfl 0 (by decide) (hts _ flX11_47) (fun _ h => h) rfl dX11_goThrough_108 ?_
                          refine ln_ishl hx hb dX11_goThrough_111 (by omega) (by omega) ?_
                          refine ln_icmp_ge (tgt := 225) hx hb dX11_goThrough_112 (by decide) (by omega) (by omega) (fun c112 => ?_) (fun c112 => ?_)
                          · refine ln_iinc (lv' := [(7, .int (nI (f + 1))), (8, .int (nI (x))), (4, .int (nI (b_l (expX σ (b_q B i) da f (expF σ (b_q B i) da B f) x)))), (6, .int (nI (b_q B i))), (5, .int (nI (i))), (0, .ref (ad 0)), (1, .int (nI (sn))), (2, .int (nI (bk)))]) hx hb dX11_goThrough_225 hl (k := 2) (n := 1) rfl (by decide) rfl (fun ls hl => ?_)
                            refine lv_goto (tgt := 92) hx hb dX11_goThrough_228 (by decide) ?_
                            have hl : lv_has ls 10 [(7, .int (nI (f + 1))), (4, .int (nI (b_l (expF σ (b_q B i) da B (f + 1))))), (6, .int (nI (b_q B i))), (5, .int (nI (i))), (0, .ref (ad 0)), (1, .int (nI (sn))), (2, .int (nI (bk)))] := by rw [← (show (nI (b_l (expX σ (b_q B i) da f (expF σ (b_q B i) da B f) x))) = (nI (b_l (expF σ (b_q B i) da B (f + 1)))) from by rw [show x = 2 ^ s_n σ by omega]; rfl)]; exact lv_sub hl [0, 2, 3, 4, 5, 6, 7] rfl
                            exact ih_lf (f + 1) ls _ _ _ _ _ _ (by omega) (by rw [show x = 2 ^ s_n σ by omega] at hra; exact hra) hP hD hS hl
                          · exact absurd c112 (by omega)
                        | succ k_lx ih_lx =>
                          intro x ls H locs ma li ah bw hi_lx hx1 hra hP hD hS hl
                          have hX := expX_inv (σ := σ) hF.1 hsv hF.2.1 hdai (Nat.lt_of_lt_of_le c60 hF.2.2.1) (f := f) (by omega) (x := x) (by omega)
                          have hbx := hX.1.1
                          have hpf := pw_lt8 (k := f) (by omega)
                          refine lv_iload hx hb dX11_goThrough_104 (lv_at hl 0 rfl) ?_
                          refine lv_iconst (v := nI 1) hx hb dX11_goThrough_106 (by decide) ?_
                          refine lv_aload_n hx hb dX11_goThrough_107 rfl (lv_at hl 5 rfl) ?_
                          refine va_get (D := D) (ci := 10) (v := .int (nI (s_n σ))) (C := RX11) (T := TX11) (N := 31) hx hb hts ni11 hown hK hP 0 (mw_c0 cy ad σ (mu_by (mu_ah (mu_li (mu_ma T ma) li) ah) bw)) rfl 0 (by decide) (hts _ flX11_47) (fun _ h => h) rfl dX11_goThrough_108 ?_
                          refine ln_ishl hx hb dX11_goThrough_111 (by omega) (by omega) ?_
                          refine ln_icmp_ge (tgt := 225) hx hb dX11_goThrough_112 (by decide) (by omega) (by omega) (fun c112 => ?_) (fun c112 => ?_)
                          · exact absurd c112 (by omega)
                          · refine lv_iload hx hb dX11_goThrough_115 (lv_at hl 3 rfl) ?_
                            refine lv_iload hx hb dX11_goThrough_117 (lv_at hl 0 rfl) ?_
                            refine ln_ixor hx hb dX11_goThrough_119 ?_
                            refine lv_sipush (v := nI 256) hx hb dX11_goThrough_120 (by decide) ?_
                            refine lv_iload hx hb dX11_goThrough_123 (lv_at hl 2 rfl) ?_
                            refine ln_ishl hx hb dX11_goThrough_125 (by omega) (by omega) ?_
                            refine ln_ixor hx hb dX11_goThrough_126 ?_
                            refine ln_nat (show ((b_q B i) ^^^ x) ^^^ (256 * 2 ^ f) = stp (b_q B i) f x from rfl) ?_
                            have hto := stp_lt hsv (show f < 3 by omega) (show x < 256 by omega)
                            refine lv_istore (lv' := [(9, .int (nI (stp (b_q B i) f x))), (8, .int (nI (x))), (4, .int (nI (b_l (expX σ (b_q B i) da f (expF σ (b_q B i) da B f) x)))), (7, .int (nI (f))), (6, .int (nI (b_q B i))), (5, .int (nI (i))), (0, .ref (ad 0)), (1, .int (nI (sn))), (2, .int (nI (bk)))]) hx hb dX11_goThrough_127 hl (by decide) rfl (fun ls hl => ?_)
                            refine lv_aload_n hx hb dX11_goThrough_129 rfl (lv_at hl 6 rfl) ?_
                            refine va_get (D := D) (ci := 10) (v := .ref (ad 9)) (C := RX11) (T := TX11) (N := 31) hx hb hts ni11 hown hK hP 0 (mw_c0 cy ad σ (mu_by (mu_ah (mu_li (mu_ma T ma) li) ah) bw)) rfl 26 (by decide) (hts _ flX11_35) (fun _ h => h) rfl dX11_goThrough_130 ?_
                            refine lv_iload hx hb dX11_goThrough_133 (lv_at hl 0 rfl) ?_
                            refine ln_iald (v := (ma (stp (b_q B i) f x))) hx hb hK hP 9 (mw_c9 cy ad σ (mu_by (mu_ah (mu_li (mu_ma T ma) li) ah) bw)) (by omega) (by decide) rfl dX11_goThrough_135 ?_
                            refine ln_eq (show (ma (stp (b_q B i) f x)) = (oI (b_d (expX σ (b_q B i) da f (expF σ (b_q B i) da B f) x) (stp (b_q B i) f x))) from hra.1 _ hto) ?_
                            refine lv_iconst (v := -1) hx hb dX11_goThrough_136 (by decide) ?_
                            refine lo_icmp_ne (tgt := 219) hx hb dX11_goThrough_137 (by decide) (fun k hk => Nat.lt_trans (bd_lt hX.1 hk) (by decide)) (fun c137 => ?_) (fun c137 => ?_)
                            · refine ln_iinc (lv' := [(8, .int (nI (x + 1))), (9, .int (nI (stp (b_q B i) f x))), (4, .int (nI (b_l (expX σ (b_q B i) da f (expF σ (b_q B i) da B f) x)))), (7, .int (nI (f))), (6, .int (nI (b_q B i))), (5, .int (nI (i))), (0, .ref (ad 0)), (1, .int (nI (sn))), (2, .int (nI (bk)))]) hx hb dX11_goThrough_219 hl (k := 1) (n := 1) rfl (by decide) rfl (fun ls hl => ?_)
                              refine lv_goto (tgt := 104) hx hb dX11_goThrough_222 (by decide) ?_
                              have hl : lv_has ls 10 [(8, .int (nI (x + 1))), (4, .int (nI (b_l (expX σ (b_q B i) da f (expF σ (b_q B i) da B f) (x + 1))))), (7, .int (nI (f))), (6, .int (nI (b_q B i))), (5, .int (nI (i))), (0, .ref (ad 0)), (1, .int (nI (sn))), (2, .int (nI (bk)))] := by rw [← (show (nI (b_l (expX σ (b_q B i) da f (expF σ (b_q B i) da B f) x))) = (nI (b_l (expX σ (b_q B i) da f (expF σ (b_q B i) da B f) (x + 1)))) from congrArg nI (by first | exact congrArg b_l (tryE_t c137 c163) | exact congrArg b_l (tryE_f1 c137) | exact congrArg b_l (tryE_f2 c163)))]; exact lv_sub hl [0, 2, 3, 4, 5, 6, 7, 8] rfl
                              exact ih_lx (x + 1) ls _ _ _ _ _ _ (by omega) (by omega) (by first | (show raN (tryE _ _ _ _ _ _) _ _ _ _; rw [← tryE_t c137 c163]; exact raN_push hra) | (show raN (tryE _ _ _ _ _ _) _ _ _ _; rw [← tryE_f1 c137]; exact hra) | (show raN (tryE _ _ _ _ _ _) _ _ _ _; rw [← tryE_f2 c163]; exact hra)) hP hD hS hl
                            · refine lv_aload_n hx hb dX11_goThrough_140 rfl (lv_at hl 6 rfl) ?_
                              refine lv_iload hx hb dX11_goThrough_141 (lv_at hl 3 rfl) ?_
                              refine lv_iload hx hb dX11_goThrough_143 (lv_at hl 1 rfl) ?_
                              refine lv_iload hx hb dX11_goThrough_145 (lv_at hl 4 rfl) ?_
                              refine lv_sipush (v := nI 255) hx hb dX11_goThrough_147 (by decide) ?_
                              refine ln_iand hx hb dX11_goThrough_150 ?_
                              refine lv_iload hx hb dX11_goThrough_151 (lv_at hl 4 rfl) ?_
                              refine lv_bipush (v := nI 8) hx hb dX11_goThrough_153 (by decide) ?_
                              refine ln_ishr hx hb dX11_goThrough_155 (by omega) (by omega) ?_
                              refine lv_aload_n hx hb dX11_goThrough_156 rfl (lv_at hl 6 rfl) ?_
                              refine va_get (D := D) (ci := 10) (v := .int (nI (s_of σ))) (C := RX11) (T := TX11) (N := 31) hx hb hts ni11 hown hK hP 0 (mw_c0 cy ad σ (mu_by (mu_ah (mu_li (mu_ma T ma) li) ah) bw)) rfl 19 (by decide) (hts _ flX11_161) (fun _ h => h) rfl dX11_goThrough_157 ?_
                              refine cr_v (n := 5) (As := [.int (nI (f)), .int (nI (x)), .int (nI ((b_q B i) &&& 255)), .int (nI ((b_q B i) / 2 ^ 8)), .int (nI (s_of σ))]) (rest := []) ⟨hx, hb, hml, hown, hts⟩ (k_X11_isRight l D cy ad σ (mu_by (mu_ah (mu_li (mu_ma T ma) li) ah) bw) f x ((b_q B i) &&& 255) ((b_q B i) / 2 ^ 8) (s_of σ) hw (by omega) (by omega) (by omega) (by omega) (by omega)) gvX11_207 (by decide +kernel) ⟨Nat.le_of_ble_eq_true rfl, Nat.le_of_ble_eq_true rfl⟩ hK hN hP 0 (mw_c0 cy ad σ (mu_by (mu_ah (mu_li (mu_ma T ma) li) ah) bw)) rfl rfl hl.1 rfl (Nat.le_of_ble_eq_true rfl) dX11_goThrough_160 ⟨Nat.zero_le _, Nat.zero_le _⟩ ?_
                              refine lb_if_eq (tgt := 219) hx hb dX11_goThrough_163 (by decide) (fun c163 => ?_) (fun c163 => ?_)
                              · refine ln_iinc (lv' := [(8, .int (nI (x + 1))), (9, .int (nI (stp (b_q B i) f x))), (4, .int (nI (b_l (expX σ (b_q B i) da f (expF σ (b_q B i) da B f) x)))), (7, .int (nI (f))), (6, .int (nI (b_q B i))), (5, .int (nI (i))), (0, .ref (ad 0)), (1, .int (nI (sn))), (2, .int (nI (bk)))]) hx hb dX11_goThrough_219 hl (k := 1) (n := 1) rfl (by decide) rfl (fun ls hl => ?_)
                                refine lv_goto (tgt := 104) hx hb dX11_goThrough_222 (by decide) ?_
                                have hl : lv_has ls 10 [(8, .int (nI (x + 1))), (4, .int (nI (b_l (expX σ (b_q B i) da f (expF σ (b_q B i) da B f) (x + 1))))), (7, .int (nI (f))), (6, .int (nI (b_q B i))), (5, .int (nI (i))), (0, .ref (ad 0)), (1, .int (nI (sn))), (2, .int (nI (bk)))] := by rw [← (show (nI (b_l (expX σ (b_q B i) da f (expF σ (b_q B i) da B f) x))) = (nI (b_l (expX σ (b_q B i) da f (expF σ (b_q B i) da B f) (x + 1)))) from congrArg nI (by first | exact congrArg b_l (tryE_t c137 c163) | exact congrArg b_l (tryE_f1 c137) | exact congrArg b_l (tryE_f2 c163)))]; exact lv_sub hl [0, 2, 3, 4, 5, 6, 7, 8] rfl
                                exact ih_lx (x + 1) ls _ _ _ _ _ _ (by omega) (by omega) (by first | (show raN (tryE _ _ _ _ _ _) _ _ _ _; rw [← tryE_t c137 c163]; exact raN_push hra) | (show raN (tryE _ _ _ _ _ _) _ _ _ _; rw [← tryE_f1 c137]; exact hra) | (show raN (tryE _ _ _ _ _ _) _ _ _ _; rw [← tryE_f2 c163]; exact hra)) hP hD hS hl
                              · have hroom := push_room hX.1 hto c137
                                refine lv_aload_n hx hb dX11_goThrough_166 rfl (lv_at hl 6 rfl) ?_
                                refine va_get (D := D) (ci := 10) (v := .ref (ad 9)) (C := RX11) (T := TX11) (N := 31) hx hb hts ni11 hown hK hP 0 (mw_c0 cy ad σ (mu_by (mu_ah (mu_li (mu_ma T ma) li) ah) bw)) rfl 26 (by decide) (hts _ flX11_35) (fun _ h => h) rfl dX11_goThrough_167 ?_
                                refine lv_iload hx hb dX11_goThrough_170 (lv_at hl 0 rfl) ?_
                                refine lv_aload_n hx hb dX11_goThrough_172 rfl (lv_at hl 6 rfl) ?_
                                refine va_get (D := D) (ci := 10) (v := .ref (ad 9)) (C := RX11) (T := TX11) (N := 31) hx hb hts ni11 hown hK hP 0 (mw_c0 cy ad σ (mu_by (mu_ah (mu_li (mu_ma T ma) li) ah) bw)) rfl 26 (by decide) (hts _ flX11_35) (fun _ h => h) rfl dX11_goThrough_173 ?_
                                refine lv_iload hx hb dX11_goThrough_176 (lv_at hl 4 rfl) ?_
                                refine ln_iald (v := (ma (b_q B i))) hx hb hK hP 9 (mw_c9 cy ad σ (mu_by (mu_ah (mu_li (mu_ma T ma) li) ah) bw)) (by omega) (by decide) rfl dX11_goThrough_178 ?_
                                refine ln_eq (show (ma (b_q B i)) = (nI (da)) from by rw [hra.1 _ hsv, hX.2.1]; rfl) ?_
                                refine lv_iconst (v := nI 1) hx hb dX11_goThrough_179 (by decide) ?_
                                refine ln_iadd hx hb dX11_goThrough_180 ?_
                                refine ln_iast hx hb hK hP hD hS 9 (mw_c9 cy ad σ (mu_by (mu_ah (mu_li (mu_ma T ma) li) ah) bw)) (by omega) (by decide) ((mp_9 cy ad σ (mu_by (mu_ah (mu_li (mu_ma T ma) li) ah) bw) (stp (b_q B i) f x) (nI (da + 1))).trans (congrArg (fun z => mw cy ad σ z) (by rw [mx_ma_by, mx_ma_ah, mx_ma_li, mc_ma]))) dX11_goThrough_181 (fun H locs hP hD hS => ?_)
                                refine lv_aload_n hx hb dX11_goThrough_182 rfl (lv_at hl 6 rfl) ?_
                                refine va_get (D := D) (ci := 10) (v := .ref (ad 10)) (C := RX11) (T := TX11) (N := 31) hx hb hts ni11 hown hK hP 0 (mw_c0 cy ad σ (mu_by (mu_ah (mu_li (mu_ma T (upd (ma) (stp (b_q B i) f x) (nI (da + 1)))) li) ah) bw)) rfl 27 (by decide) (hts _ flX11_38) (fun _ h => h) rfl dX11_goThrough_183 ?_
                                refine lv_iload hx hb dX11_goThrough_186 (lv_at hl 0 rfl) ?_
                                refine lv_iload hx hb dX11_goThrough_188 (lv_at hl 4 rfl) ?_
                                refine ln_iast hx hb hK hP hD hS 10 (mw_c10 cy ad σ (mu_by (mu_ah (mu_li (mu_ma T (upd (ma) (stp (b_q B i) f x) (nI (da + 1)))) li) ah) bw)) (by omega) (by decide) ((mp_10 cy ad σ (mu_by (mu_ah (mu_li (mu_ma T (upd (ma) (stp (b_q B i) f x) (nI (da + 1)))) li) ah) bw) (stp (b_q B i) f x) (nI (b_q B i))).trans (congrArg (fun z => mw cy ad σ z) (by rw [mx_ah_by, mc_ah]))) dX11_goThrough_190 (fun H locs hP hD hS => ?_)
                                refine lv_aload_n hx hb dX11_goThrough_191 rfl (lv_at hl 6 rfl) ?_
                                refine va_get (D := D) (ci := 10) (v := .ref (ad 11)) (C := RX11) (T := TX11) (N := 31) hx hb hts ni11 hown hK hP 0 (mw_c0 cy ad σ (mu_by (mu_ah (mu_li (mu_ma T (upd (ma) (stp (b_q B i) f x) (nI (da + 1)))) li) (upd (ah) (stp (b_q B i) f x) (nI (b_q B i)))) bw)) rfl 28 (by decide) (hts _ flX11_41) (fun _ h => h) rfl dX11_goThrough_192 ?_
                                refine lv_iload hx hb dX11_goThrough_195 (lv_at hl 0 rfl) ?_
                                refine lv_sipush (v := nI 256) hx hb dX11_goThrough_197 (by decide) ?_
                                refine lv_iload hx hb dX11_goThrough_200 (lv_at hl 3 rfl) ?_
                                refine ln_imul hx hb dX11_goThrough_202 ?_
                                refine lv_iload hx hb dX11_goThrough_203 (lv_at hl 1 rfl) ?_
                                refine ln_iadd hx hb dX11_goThrough_205 ?_
                                refine ln_iast hx hb hK hP hD hS 11 (mw_c11 cy ad σ (mu_by (mu_ah (mu_li (mu_ma T (upd (ma) (stp (b_q B i) f x) (nI (da + 1)))) li) (upd (ah) (stp (b_q B i) f x) (nI (b_q B i)))) bw)) (by omega) (by decide) ((mp_11 cy ad σ (mu_by (mu_ah (mu_li (mu_ma T (upd (ma) (stp (b_q B i) f x) (nI (da + 1)))) li) (upd (ah) (stp (b_q B i) f x) (nI (b_q B i)))) bw) (stp (b_q B i) f x) (nI ((256 * f) + x))).trans (congrArg (fun z => mw cy ad σ z) (by rw [mc_by]))) dX11_goThrough_206 (fun H locs hP hD hS => ?_)
                                refine lv_aload_n hx hb dX11_goThrough_207 rfl (lv_at hl 6 rfl) ?_
                                refine va_get (D := D) (ci := 10) (v := .ref (ad 12)) (C := RX11) (T := TX11) (N := 31) hx hb hts ni11 hown hK hP 0 (mw_c0 cy ad σ (mu_by (mu_ah (mu_li (mu_ma T (upd (ma) (stp (b_q B i) f x) (nI (da + 1)))) li) (upd (ah) (stp (b_q B i) f x) (nI (b_q B i)))) (upd (bw) (stp (b_q B i) f x) (nI ((256 * f) + x))))) rfl 29 (by decide) (hts _ flX11_44) (fun _ h => h) rfl dX11_goThrough_208 ?_
                                refine lv_iload hx hb dX11_goThrough_211 (lv_at hl 2 rfl) ?_
                                refine lv_iload hx hb dX11_goThrough_213 (lv_at hl 0 rfl) ?_
                                refine ln_iast hx hb hK hP hD hS 12 (mw_c12 cy ad σ (mu_by (mu_ah (mu_li (mu_ma T (upd (ma) (stp (b_q B i) f x) (nI (da + 1)))) li) (upd (ah) (stp (b_q B i) f x) (nI (b_q B i)))) (upd (bw) (stp (b_q B i) f x) (nI ((256 * f) + x))))) (by omega) (by decide) ((mp_12 cy ad σ (mu_by (mu_ah (mu_li (mu_ma T (upd (ma) (stp (b_q B i) f x) (nI (da + 1)))) li) (upd (ah) (stp (b_q B i) f x) (nI (b_q B i)))) (upd (bw) (stp (b_q B i) f x) (nI ((256 * f) + x)))) (b_l (expX σ (b_q B i) da f (expF σ (b_q B i) da B f) x)) (nI (stp (b_q B i) f x))).trans (congrArg (fun z => mw cy ad σ z) (by rw [mx_li_by, mx_li_ah, mc_li]))) dX11_goThrough_215 (fun H locs hP hD hS => ?_)
                                refine ln_iinc (lv' := [(4, .int (nI ((b_l (expX σ (b_q B i) da f (expF σ (b_q B i) da B f) x)) + 1))), (9, .int (nI (stp (b_q B i) f x))), (8, .int (nI (x))), (7, .int (nI (f))), (6, .int (nI (b_q B i))), (5, .int (nI (i))), (0, .ref (ad 0)), (1, .int (nI (sn))), (2, .int (nI (bk)))]) hx hb dX11_goThrough_216 hl (k := 2) (n := 1) rfl (by decide) rfl (fun ls hl => ?_)
                                refine ln_iinc (lv' := [(8, .int (nI (x + 1))), (4, .int (nI ((b_l (expX σ (b_q B i) da f (expF σ (b_q B i) da B f) x)) + 1))), (9, .int (nI (stp (b_q B i) f x))), (7, .int (nI (f))), (6, .int (nI (b_q B i))), (5, .int (nI (i))), (0, .ref (ad 0)), (1, .int (nI (sn))), (2, .int (nI (bk)))]) hx hb dX11_goThrough_219 hl (k := 2) (n := 1) rfl (by decide) rfl (fun ls hl => ?_)
                                refine lv_goto (tgt := 104) hx hb dX11_goThrough_222 (by decide) ?_
                                have hl : lv_has ls 10 [(8, .int (nI (x + 1))), (4, .int (nI (b_l (expX σ (b_q B i) da f (expF σ (b_q B i) da B f) (x + 1))))), (7, .int (nI (f))), (6, .int (nI (b_q B i))), (5, .int (nI (i))), (0, .ref (ad 0)), (1, .int (nI (sn))), (2, .int (nI (bk)))] := by rw [← (show (nI ((b_l (expX σ (b_q B i) da f (expF σ (b_q B i) da B f) x)) + 1)) = (nI (b_l (expX σ (b_q B i) da f (expF σ (b_q B i) da B f) (x + 1)))) from congrArg nI (by first | exact congrArg b_l (tryE_t c137 c163) | exact congrArg b_l (tryE_f1 c137) | exact congrArg b_l (tryE_f2 c163)))]; exact lv_sub hl [0, 1, 3, 4, 5, 6, 7, 8] rfl
                                exact ih_lx (x + 1) ls _ _ _ _ _ _ (by omega) (by omega) (by first | (show raN (tryE _ _ _ _ _ _) _ _ _ _; rw [← tryE_t c137 c163]; exact raN_push hra) | (show raN (tryE _ _ _ _ _ _) _ _ _ _; rw [← tryE_f1 c137]; exact hra) | (show raN (tryE _ _ _ _ _ _) _ _ _ _; rw [← tryE_f2 c163]; exact hra)) hP hD hS hl
                      have hl : lv_has ls 10 [(8, .int (nI (1))), (4, .int (nI (b_l (expX σ (b_q B i) da f (expF σ (b_q B i) da B f) 1)))), (7, .int (nI (f))), (6, .int (nI (b_q B i))), (5, .int (nI (i))), (0, .ref (ad 0)), (1, .int (nI (sn))), (2, .int (nI (bk)))] := by rw [← (show (nI (b_l (expF σ (b_q B i) da B f))) = (nI (b_l (expX σ (b_q B i) da f (expF σ (b_q B i) da B f) 1))) from by rw [expX_1])]; exact lv_sub hl [0, 2, 1, 3, 4, 5, 6, 7] rfl
                      exact lx (2 ^ s_n σ - 1) 1 ls _ _ _ _ _ _ (by omega) (by omega) (by rw [expX_1]; exact hra) hP hD hS hl
                have hl : lv_has ls 10 [(7, .int (nI (0))), (4, .int (nI (b_l (expF σ (b_q B i) da B 0)))), (6, .int (nI (b_q B i))), (5, .int (nI (i))), (0, .ref (ad 0)), (1, .int (nI (sn))), (2, .int (nI (bk)))] := lv_sub hl [0, 3, 1, 2, 4, 5, 6] rfl
                exact lf (s_m σ - 0) 0 ls _ _ _ _ _ _ (by omega) hra hP hD hS hl
              · refine lv_iload hx hb dX11_goThrough_86 (lv_at hl 0 rfl) ?_
                exact rw_i hx hb hr hlocks hS (mu_by (mu_ah (mu_li (mu_ma T ma) li) ah) bw) (⟨by rw [← hbf, bfs, if_pos c60, show goalN sn bk (b_q B i) = true from c83]; rfl, by rw [← hbf, bfs, if_pos c60, show goalN sn bk (b_q B i) = true from c83]; exact hra⟩) hP dX11_goThrough_88
        have hl : lv_has ls 10 [(5, .int (nI (0))), (4, .int (nI (b_l (B0 (st0 σ))))), (0, .ref (ad 0)), (1, .int (nI (sn))), (2, .int (nI (bk)))] := lv_sub hl [0, 1, 3, 4, 5] rfl
        have hP : va_P D vwCl (mw cy ad σ (mu_li (mu_ma T (upd ma (st0 σ) (nI 0))) (upd (m_li T) 0 (nI (st0 σ))))) H := hP
        have hD : va_D A (mw cy ad σ (mu_li (mu_ma T (upd ma (st0 σ) (nI 0))) (upd (m_li T) 0 (nI (st0 σ))))) := hD
        rw [← m_eta_ah (mu_li (mu_ma T (upd ma (st0 σ) (nI 0))) (upd (m_li T) 0 (nI (st0 σ))))] at hP hD
        rw [← m_eta_by (mu_ah _ _)] at hP hD
        exact lp (2049 - 0) 0 ls _ _ (B0 (st0 σ)) _ _ _ _ (by omega) (B0_inv hs0) (Nat.zero_le _) (raN_0 hm2) rfl hP hD hS hl
      · exact absurd c6 (by omega)
    | succ k_l0 ih_l0 =>
      intro j ls H locs ma hi_l0 hm1 hP hD hS hl
      refine lv_iload_n hx hb dX11_goThrough_2 rfl (lv_at hl 0 rfl) ?_
      refine lv_sipush (v := nI 2048) hx hb dX11_goThrough_3 (by decide) ?_
      refine ln_icmp_ge (tgt := 22) hx hb dX11_goThrough_6 (by decide) (by omega) (by omega) (fun c6 => ?_) (fun c6 => ?_)
      · exact absurd c6 (by omega)
      · refine lv_aload_n hx hb dX11_goThrough_9 rfl (lv_at hl 1 rfl) ?_
        refine va_get (D := D) (ci := 10) (v := .ref (ad 9)) (C := RX11) (T := TX11) (N := 31) hx hb hts ni11 hown hK hP 0 (mw_c0 cy ad σ (mu_ma T ma)) rfl 26 (by decide) (hts _ flX11_35) (fun _ h => h) rfl dX11_goThrough_10 ?_
        refine lv_iload_n hx hb dX11_goThrough_13 rfl (lv_at hl 0 rfl) ?_
        refine lv_iconst (v := -1) hx hb dX11_goThrough_14 (by decide) ?_
        refine ln_iast hx hb hK hP hD hS 9 (mw_c9 cy ad σ (mu_ma T ma)) (by omega) (by decide) ((mp_9 cy ad σ (mu_ma T ma) j (-1)).trans (congrArg (fun z => mw cy ad σ z) (by rw [mc_ma]))) dX11_goThrough_15 (fun H locs hP hD hS => ?_)
        refine ln_iinc (lv' := [(3, .int (nI (j + 1))), (0, .ref (ad 0)), (1, .int (nI (sn))), (2, .int (nI (bk)))]) hx hb dX11_goThrough_16 hl (k := 0) (n := 1) rfl (by decide) rfl (fun ls hl => ?_)
        refine lv_goto (tgt := 2) hx hb dX11_goThrough_19 (by decide) ?_
        have hl : lv_has ls 10 [(3, .int (nI (j + 1))), (0, .ref (ad 0)), (1, .int (nI (sn))), (2, .int (nI (bk)))] := lv_sub hl [0, 1, 2, 3] rfl
        exact ih_l0 (j + 1) ls _ _ _ (by omega) (fun v hv => by unfold upd; by_cases e : v = j; rw [if_pos e]; rw [if_neg e]; exact hm1 v (by omega)) hP hD hS hl
  have hl : lv_has ls 10 [(3, .int (nI (0))), (0, .ref (ad 0)), (1, .int (nI (sn))), (2, .int (nI (bk)))] := lv_sub hl [0, 1, 2, 3] rfl
  have hP : va_P D vwCl (mw cy ad σ (mu_ma T (m_ma T))) s.heap := hP
  have hD : va_D A (mw cy ad σ (mu_ma T (m_ma T))) := hD
  exact l0 (2048 - 0) 0 ls _ _ (m_ma T) (by omega) (fun v hv => absurd hv (by omega)) hP hD hS hl
theorem bfs_goal {σ : Sg} {goal : Nat → Bool} (hn : 2 ^ s_n σ ≤ 256) (hm : s_m σ ≤ 3) : ∀ {k i : Nat} {B : Bf}, bInv B → bInv (bfs σ goal k i B).2 ∧ ∀ v, (bfs σ goal k i B).1 = some v → v < 2048 ∧ ∃ d, b_d (bfs σ goal k i B).2 v = some d
  | 0, i, B, h => ⟨h, fun v hv => by cases hv⟩
  | k + 1, i, B, h => by
    rw [bfs]
    by_cases c : i < b_l B
    · rw [if_pos c]
      obtain ⟨hs, da, hda, hdai⟩ := h.2.1 i c
      by_cases g : goal (b_q B i) = true
      · rw [if_pos g]
        exact ⟨h, fun v hv => by cases hv; exact ⟨hs, da, hda⟩⟩
      · rw [if_neg g, hda]
        exact bfs_goal hn hm (expF_inv (σ := σ) h hs hda hdai c hn hm).1
    · rw [if_neg c]; exact ⟨h, fun v hv => by cases hv⟩
theorem fewB_ok {σ : Sg} (hw : wfS σ) (sn bk : Nat) : bInv (fewB σ sn bk).2 ∧ ∀ v, (fewB σ sn bk).1 = some v → v < 2048 ∧ ∃ d, b_d (fewB σ sn bk).2 v = some d := bfs_goal (pw_8 hw.1) hw.2.1 (B0_inv (st0_lt hw))
theorem m1_le {i : Int32} (h : -1 ≤ i) (hn : ¬ i = -1) : ∃ j, j < 2 ^ 31 ∧ i = nI j := by
  have h1 : ((-1 : Int32)).toInt = -1 := rfl
  rw [Int32.le_iff_toInt_le, h1] at h
  have h2 : i.toInt ≠ -1 := fun q => hn (Int32.toInt_inj.mp (by rw [q, h1]))
  have h3 : i.toInt < 2 ^ 31 := Int32.toInt_lt i
  refine ⟨i.toInt.toNat, by omega, ?_⟩
  apply Int32.toInt_inj.mp
  rw [nI_toInt (by omega)]
  omega
set_option maxHeartbeats 4000000 in
set_option maxRecDepth 100000 in
theorem k_X11_fewest (l : Launch) (D : va_G) (cy : Nat → ClassId) (ad : Nat → Nat) (σ : Sg) (T : Ms) (sn bk i : Int32) (hw : wfS σ) : MW l yX11_fewest qX11_fewest 5 [.ref (ad 0), .int (sn), .int (bk), .int (i)] D cy (mw cy ad σ T) (fun (r : Int32) (_ : Ms) => r = a_fewest σ sn bk i) (fun u : Ms => mw cy ad (σ) u) := by
  intro sz
  refine Met.ofW (cc := cX11_fewest) (maxL := 5) (ret := (some .int)) (by decide) rfl ?_
  intro p e s m args below meth c s₁ B hml hv
  obtain ⟨rfl, rfl, hP, hK, hN, hD0⟩ := hv
  have hx := B.exec
  have hb := B.bytes
  have hr := B.returns
  have hlocks := B.notSynchronized
  have hts : ∀ cq ∈ tg, cq.before ([.ref (ad 0), .int (sn), .int (bk), .int (i)] : List Value).toArray s = true := fun cq h => atoms_spec (ws := qX11_fewest) B.pre cq (List.mem_cons_of_mem _ h)
  have hown : s.vm.findClass RX11 = some m.cls := findClass_of_methodNamed B.named
  have hD := hD0.self (sz := s.heap.size)
  generalize hAe : va_A (mw cy ad σ T) s.heap.size = A at hD ⊢
  have hA : ∀ q : Nat, s.heap.size ≤ q → A q := fun q h => by rw [← hAe]; exact Or.inr h
  have hS : va_S A s.heap s.heap [] := va_S.rf
  have hl := lv_entry ([.ref (ad 0), .int (sn), .int (bk), .int (i)]) (n := 5) (Nat.le_of_ble_eq_true rfl)
  rw [lg_entry_eq]
  generalize (lg_sl ([.ref (ad 0), .int (sn), .int (bk), .int (i)]) ++ List.replicate (5 - (lg_sl ([.ref (ad 0), .int (sn), .int (bk), .int (i)])).length) Slot.unset).toArray = ls at hl ⊢
  have hl : lv_has ls 5 [(0, .ref (ad 0)), (1, .int (sn)), (2, .int (bk)), (3, .int (i))] := hl
  have hw1 := hw.1
  have hw2 := hw.2.1
  have hp8 := pw_8 hw1
  have hpp := pw_pos (s_n σ)
  have hov := ov_lt hw
  have hmo := mo_lt hw
  have hof := of_lt hw
  refine lv_aload_n hx hb dX11_fewest_0 rfl (lv_at hl 0 rfl) ?_
  refine lv_iload_n hx hb dX11_fewest_1 rfl (lv_at hl 1 rfl) ?_
  refine cr_v (n := 1) (As := [.int (sn)]) (rest := []) ⟨hx, hb, hml, hown, hts⟩ (k_X11_isSet l D cy ad σ T (sn) hw) gvX11_204 (by decide +kernel) ⟨Nat.le_of_ble_eq_true rfl, Nat.le_of_ble_eq_true rfl⟩ hK hN hP 0 (mw_c0 cy ad σ T) rfl rfl hl.1 rfl (Nat.le_of_ble_eq_true rfl) dX11_fewest_2 ⟨Nat.zero_le _, Nat.zero_le _⟩ ?_
  refine lb_if_eq (tgt := 15) hx hb dX11_fewest_5 (by decide) (fun c5 => ?_) (fun c5 => ?_)
  · refine lv_bipush (v := -2) hx hb dX11_fewest_15 (by decide) ?_
    exact rw_i hx hb hr hlocks hS T (by first | (rw [a_fewest, c5]; rfl; done) | (rw [a_fewest, c5, c12]; rfl)) hP dX11_fewest_17
  · refine lv_iload_n hx hb dX11_fewest_8 rfl (lv_at hl 2 rfl) ?_
    refine cr_s (n := 1) (As := [.int (bk)]) (rest := []) ⟨hx, hb, hml, hown, hts⟩ (k_X11_isBank l (bk)) gsX11_214 (by decide +kernel) ⟨Nat.le_of_ble_eq_true rfl, Nat.le_of_ble_eq_true rfl⟩ rfl hl.1 rfl (Nat.le_of_ble_eq_true rfl) dX11_fewest_9 ⟨Nat.zero_le _, Nat.zero_le _⟩ ?_
    refine lb_if_ne (tgt := 18) hx hb dX11_fewest_12 (by decide) (fun c12 => ?_) (fun c12 => ?_)
    · obtain ⟨sn0, hsn, rfl⟩ := ix_of c5 (by omega)
      have hl : lv_has ls 5 [(0, .ref (ad 0)), (1, .int (nI (sn0))), (2, .int (bk)), (3, .int (i))] := hl
      obtain ⟨b0, hb0, rfl⟩ := ix_of c12 (by omega)
      have hl : lv_has ls 5 [(0, .ref (ad 0)), (1, .int (nI (sn0))), (2, .int (nI (b0))), (3, .int (i))] := hl
      refine lv_iload_n hx hb dX11_fewest_18 rfl (lv_at hl 3 rfl) ?_
      refine lv_iconst (v := -1) hx hb dX11_fewest_19 (by decide) ?_
      refine lv_icmp_ge (tgt := 26) hx hb dX11_fewest_20 (by decide) (fun c20 => ?_) (fun c20 => ?_)
      · refine lv_aload_n hx hb dX11_fewest_26 rfl (lv_at hl 0 rfl) ?_
        refine lv_iload_n hx hb dX11_fewest_27 rfl (lv_at hl 1 rfl) ?_
        refine lv_iload_n hx hb dX11_fewest_28 rfl (lv_at hl 2 rfl) ?_
        refine cr_w (n := 2) (As := [.int (nI (sn0)), .int (nI (b0))]) (rest := []) ⟨hx, hb, hml, hown, hts⟩ (k_X11_goThrough l D cy ad σ T sn0 b0 hw (by omega) (by omega)) gvX11_220 (by decide +kernel) ⟨Nat.le_of_ble_eq_true rfl, Nat.le_of_ble_eq_true rfl⟩ hK hN hP hD hS hA 0 (mw_c0 cy ad σ T) rfl rfl hl.1 rfl (Nat.le_of_ble_eq_true rfl) dX11_fewest_29 ⟨Nat.zero_le _, Nat.zero_le _⟩ (fun _ => (mw_ad _ _ _ _).trans (mw_ad _ _ _ _).symm) (fun r2 u1 H locs hpu1 hP hD hS => ?_)
        obtain ⟨hr1, hra⟩ := hpu1
        have hok := fewB_ok hw sn0 b0
        rw [hr1]
        have hP : va_P D vwCl (mw cy ad σ u1) H := hP
        have hD : va_D A (mw cy ad σ u1) := hD
        refine lv_istore (lv' := [(4, .int (oI ((fewB σ sn0 b0).1))), (0, .ref (ad 0)), (1, .int (nI (sn0))), (2, .int (nI (b0))), (3, .int (i))]) hx hb dX11_fewest_32 hl (by decide) rfl (fun ls hl => ?_)
        rcases hqg : (fewB σ sn0 b0).1 with _ | g
        · rw [hqg] at hl
          have hl : lv_has ls 5 [(4, .int (-1)), (0, .ref (ad 0)), (1, .int (nI (sn0))), (2, .int (nI (b0))), (3, .int (i))] := hl
          refine lv_iload hx hb dX11_fewest_34 (lv_at hl 0 rfl) ?_
          refine lv_iconst (v := -1) hx hb dX11_fewest_36 (by decide) ?_
          refine lv_icmp_eq (tgt := 45) hx hb dX11_fewest_37 (by decide) (fun _ => ?_) (fun c => absurd rfl c)
          refine lv_iload hx hb dX11_fewest_45 (lv_at hl 0 rfl) ?_
          refine lv_iconst (v := -1) hx hb dX11_fewest_47 (by decide) ?_
          refine lv_icmp_ne (tgt := 55) hx hb dX11_fewest_48 (by decide) (fun c => absurd rfl c) (fun _ => ?_)
          refine lv_iconst (v := -1) hx hb dX11_fewest_51 (by decide) ?_
          refine lv_goto (tgt := 62) hx hb dX11_fewest_52 (by decide) ?_
          exact rw_i hx hb hr hlocks hS u1 (by rw [a_fewest, c5, c12, if_neg (by decide), if_neg (Int32.not_lt.mpr c20), tk_nI (k := sn0) (by omega), tk_nI (k := b0) (by omega), v_few]; rw [hqg]) hP dX11_fewest_62
        · rw [hqg] at hl
          have hl : lv_has ls 5 [(4, .int (nI (g))), (0, .ref (ad 0)), (1, .int (nI (sn0))), (2, .int (nI (b0))), (3, .int (i))] := hl
          have hltg := (hok.2 _) hqg
          refine lv_iload hx hb dX11_fewest_34 (lv_at hl 0 rfl) ?_
          refine lv_iconst (v := -1) hx hb dX11_fewest_36 (by decide) ?_
          refine lv_icmp_eq (tgt := 45) hx hb dX11_fewest_37 (by decide) (fun c => absurd c (m1_ne _ (by omega))) (fun _ => ?_)
          obtain ⟨hg, dv, hdv⟩ := hltg
          have hdl := bd_lt hok.1 hdv
          refine lv_iload_n hx hb dX11_fewest_40 rfl (lv_at hl 4 rfl) ?_
          refine lv_iconst (v := -1) hx hb dX11_fewest_41 (by decide) ?_
          refine lv_icmp_ne (tgt := 63) hx hb dX11_fewest_42 (by decide) (fun c42 => ?_) (fun c42 => ?_)
          · obtain ⟨j0, hj0, rfl⟩ := m1_le c20 c42
            have hl : lv_has ls 5 [(4, .int (nI (g))), (0, .ref (ad 0)), (1, .int (nI (sn0))), (2, .int (nI (b0))), (3, .int (nI (j0)))] := hl
            refine lv_iload_n hx hb dX11_fewest_63 rfl (lv_at hl 4 rfl) ?_
            refine lv_aload_n hx hb dX11_fewest_64 rfl (lv_at hl 1 rfl) ?_
            refine va_get (D := D) (ci := 10) (v := .ref (ad 9)) (C := RX11) (T := TX11) (N := 31) hx hb hts ni11 hown hK hP 0 (mw_c0 cy ad σ u1) rfl 26 (by decide) (hts _ flX11_35) (fun _ h => h) rfl dX11_fewest_65 ?_
            refine lv_iload hx hb dX11_fewest_68 (lv_at hl 0 rfl) ?_
            refine ln_iald (v := (m_ma u1 g)) hx hb hK hP 9 (mw_c9 cy ad σ u1) (by omega) (by decide) rfl dX11_fewest_70 ?_
            refine ln_eq (show (m_ma u1 g) = (nI (dv)) from by rw [hra.1 _ hg, hdv]; rfl) ?_
            refine ln_icmp_lt (tgt := 76) hx hb dX11_fewest_71 (by decide) (by omega) (by omega) (fun c71 => ?_) (fun c71 => ?_)
            · have lp : ∀ (k at_ : Nat) (ls : Array Slot), b_d (fewB σ sn0 b0).2 at_ = some (j0 + 1 + k) → at_ < 2048 → bck (b_p (fewB σ sn0 b0).2) k at_ = bck (b_p (fewB σ sn0 b0).2) (dv - 1 - j0) g → lv_has ls 5 [(4, .int (nI (at_))), (0, .ref (ad 0)), (3, .int (nI (j0)))] → W p l e (headSpec qX11_fewest (rq 5)).room s m ([.ref (ad 0), .int (nI (sn0)), .int (nI (b0)), .int (nI (j0))] : List Value).toArray below meth c H locs 0 0 (MQ below (va_Qi (fun (r : Int32) (_ : Ms) => r = a_fewest σ (nI sn0) (nI b0) (nI j0)) (fun u t => va_P D vwCl ((fun u : Ms => mw cy ad (σ) u) u) t.heap) A) ([.ref (ad 0), .int (nI (sn0)), .int (nI (b0)), .int (nI (j0))] : List Value).toArray s 0 0 A) (F0 m 76 ls []) := by
                intro k
                induction k with
                | zero =>
                  intro at_ ls hat hlt hbk hl
                  have hdl := bd_lt hok.1 hat
                  obtain ⟨hb1, hb2, fb, xb, hfb, hxb, hwb, hpb⟩ := hok.1.2.2.2.2 at_ j0 (hat.trans (congrArg some (by omega)))
                  have hrb := hra.2.1 at_ j0 (hat.trans (congrArg some (by omega)))
                  refine lv_aload_n hx hb dX11_fewest_76 rfl (lv_at hl 1 rfl) ?_
                  refine va_get (D := D) (ci := 10) (v := .ref (ad 9)) (C := RX11) (T := TX11) (N := 31) hx hb hts ni11 hown hK hP 0 (mw_c0 cy ad σ u1) rfl 26 (by decide) (hts _ flX11_35) (fun _ h => h) rfl dX11_fewest_77 ?_
                  refine lv_iload hx hb dX11_fewest_80 (lv_at hl 0 rfl) ?_
                  refine ln_iald (v := (m_ma u1 at_)) hx hb hK hP 9 (mw_c9 cy ad σ u1) (by omega) (by decide) rfl dX11_fewest_82 ?_
                  refine ln_eq (show (m_ma u1 at_) = (nI (j0 + 1 + 0)) from by rw [hra.1 _ hlt, hat]; rfl) ?_
                  refine lv_iload_n hx hb dX11_fewest_83 rfl (lv_at hl 2 rfl) ?_
                  refine lv_iconst (v := nI 1) hx hb dX11_fewest_84 (by decide) ?_
                  refine ln_iadd hx hb dX11_fewest_85 ?_
                  refine ln_icmp_le (tgt := 101) hx hb dX11_fewest_86 (by decide) (by omega) (by omega) (fun c86 => ?_) (fun c86 => ?_)
                  · refine lv_aload_n hx hb dX11_fewest_101 rfl (lv_at hl 1 rfl) ?_
                    refine va_get (D := D) (ci := 10) (v := .ref (ad 11)) (C := RX11) (T := TX11) (N := 31) hx hb hts ni11 hown hK hP 0 (mw_c0 cy ad σ u1) rfl 28 (by decide) (hts _ flX11_41) (fun _ h => h) rfl dX11_fewest_102 ?_
                    refine lv_iload hx hb dX11_fewest_105 (lv_at hl 0 rfl) ?_
                    refine ln_iald (v := (m_by u1 at_)) hx hb hK hP 11 (mw_c11 cy ad σ u1) (by omega) (by decide) rfl dX11_fewest_107 ?_
                    refine ln_eq (show (m_by u1 at_) = (nI (b_w (fewB σ sn0 b0).2 at_)) from hrb.2) ?_
                    exact rw_i hx hb hr hlocks hS u1 (by rw [a_fewest, c5, c12, if_neg (by decide), if_neg (Int32.not_lt.mpr c20), tk_nI (k := sn0) (by omega), tk_nI (k := b0) (by omega), v_few]; rw [hqg]; dsimp only; rw [if_neg (m1_ne j0 hj0), hdv, if_neg (fun q => absurd ((nI_leI (show (some dv).getD 0 < 2 ^ 31 from (by show dv < _; omega)) hj0).mp q) (by show ¬ dv ≤ j0; omega)), tk_nI (k := j0) hj0]; show nI _ = nI (b_w _ (bck _ (dv - 1 - j0) g)); rw [← hbk]; rfl) hP dX11_fewest_108
                  · exact absurd c86 (by omega)
                | succ k ih =>
                  intro at_ ls hat hlt hbk hl
                  have hdl := bd_lt hok.1 hat
                  obtain ⟨hb1, hb2, fb, xb, hfb, hxb, hwb, hpb⟩ := hok.1.2.2.2.2 at_ (j0 + 1 + k) (hat.trans (congrArg some (by omega)))
                  have hrb := hra.2.1 at_ (j0 + 1 + k) (hat.trans (congrArg some (by omega)))
                  refine lv_aload_n hx hb dX11_fewest_76 rfl (lv_at hl 1 rfl) ?_
                  refine va_get (D := D) (ci := 10) (v := .ref (ad 9)) (C := RX11) (T := TX11) (N := 31) hx hb hts ni11 hown hK hP 0 (mw_c0 cy ad σ u1) rfl 26 (by decide) (hts _ flX11_35) (fun _ h => h) rfl dX11_fewest_77 ?_
                  refine lv_iload hx hb dX11_fewest_80 (lv_at hl 0 rfl) ?_
                  refine ln_iald (v := (m_ma u1 at_)) hx hb hK hP 9 (mw_c9 cy ad σ u1) (by omega) (by decide) rfl dX11_fewest_82 ?_
                  refine ln_eq (show (m_ma u1 at_) = (nI (j0 + 1 + (k + 1))) from by rw [hra.1 _ hlt, hat]; rfl) ?_
                  refine lv_iload_n hx hb dX11_fewest_83 rfl (lv_at hl 2 rfl) ?_
                  refine lv_iconst (v := nI 1) hx hb dX11_fewest_84 (by decide) ?_
                  refine ln_iadd hx hb dX11_fewest_85 ?_
                  refine ln_icmp_le (tgt := 101) hx hb dX11_fewest_86 (by decide) (by omega) (by omega) (fun c86 => ?_) (fun c86 => ?_)
                  · exact absurd c86 (by omega)
                  · refine lv_aload_n hx hb dX11_fewest_89 rfl (lv_at hl 1 rfl) ?_
                    refine va_get (D := D) (ci := 10) (v := .ref (ad 10)) (C := RX11) (T := TX11) (N := 31) hx hb hts ni11 hown hK hP 0 (mw_c0 cy ad σ u1) rfl 27 (by decide) (hts _ flX11_38) (fun _ h => h) rfl dX11_fewest_90 ?_
                    refine lv_iload hx hb dX11_fewest_93 (lv_at hl 0 rfl) ?_
                    refine ln_iald (v := (m_ah u1 at_)) hx hb hK hP 10 (mw_c10 cy ad σ u1) (by omega) (by decide) rfl dX11_fewest_95 ?_
                    refine ln_eq (show (m_ah u1 at_) = (nI (b_p (fewB σ sn0 b0).2 at_)) from hrb.1) ?_
                    refine lv_istore (lv' := [(4, .int (nI (b_p (fewB σ sn0 b0).2 at_))), (0, .ref (ad 0)), (3, .int (nI (j0)))]) hx hb dX11_fewest_96 hl (by decide) rfl (fun ls hl => ?_)
                    refine lv_goto (tgt := 76) hx hb dX11_fewest_98 (by decide) ?_
                    exact ih _ ls hb2 hb1 hbk (lv_sub hl [0, 1, 2] rfl)
              exact lp (dv - 1 - j0) g ls (hdv.trans (congrArg some (by omega))) hg rfl (lv_sub hl [0, 1, 4] rfl)
            · refine lv_iconst (v := -1) hx hb dX11_fewest_74 (by decide) ?_
              exact rw_i hx hb hr hlocks hS u1 (by rw [a_fewest, c5, c12, if_neg (by decide), if_neg (Int32.not_lt.mpr c20), tk_nI (k := sn0) (by omega), tk_nI (k := b0) (by omega), v_few]; rw [hqg]; dsimp only; rw [if_neg (m1_ne j0 hj0), hdv, if_pos ((nI_leI (show (some dv).getD 0 < 2 ^ 31 from (by show dv < _; omega)) hj0).mpr c71)]) hP dX11_fewest_75
          · refine lv_iload hx hb dX11_fewest_45 (lv_at hl 0 rfl) ?_
            refine lv_iconst (v := -1) hx hb dX11_fewest_47 (by decide) ?_
            refine lv_icmp_ne (tgt := 55) hx hb dX11_fewest_48 (by decide) (fun _ => ?_) (fun c => absurd c (m1_ne _ (by omega)))
            refine lv_aload_n hx hb dX11_fewest_55 rfl (lv_at hl 1 rfl) ?_
            refine va_get (D := D) (ci := 10) (v := .ref (ad 9)) (C := RX11) (T := TX11) (N := 31) hx hb hts ni11 hown hK hP 0 (mw_c0 cy ad σ u1) rfl 26 (by decide) (hts _ flX11_35) (fun _ h => h) rfl dX11_fewest_56 ?_
            refine lv_iload hx hb dX11_fewest_59 (lv_at hl 0 rfl) ?_
            refine ln_iald (v := (m_ma u1 g)) hx hb hK hP 9 (mw_c9 cy ad σ u1) (by omega) (by decide) rfl dX11_fewest_61 ?_
            refine ln_eq (show (m_ma u1 g) = (nI (dv)) from by rw [hra.1 _ hg, hdv]; rfl) ?_
            exact rw_i hx hb hr hlocks hS u1 (by rw [a_fewest, c5, c12, if_neg (by decide), if_neg (Int32.not_lt.mpr c20), tk_nI (k := sn0) (by omega), tk_nI (k := b0) (by omega), v_few]; rw [hqg]; dsimp only; rw [if_pos c42, hdv]; rfl) hP dX11_fewest_62
      · refine lv_bipush (v := -3) hx hb dX11_fewest_23 (by decide) ?_
        exact rw_i hx hb hr hlocks hS T (by rw [a_fewest, c5, c12, if_neg (by decide), if_pos (Int32.not_le.mp c20)]) hP dX11_fewest_25
    · refine lv_bipush (v := -2) hx hb dX11_fewest_15 (by decide) ?_
      exact rw_i hx hb hr hlocks hS T (by first | (rw [a_fewest, c5]; rfl; done) | (rw [a_fewest, c5, c12]; rfl)) hP dX11_fewest_17
