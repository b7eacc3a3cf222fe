theorem cnt_s {p : Nat → Bool} {i : Nat} {b : Bool} (h : p i = b) : cntN p i + b.toNat = cntN p (i + 1) := by rw [cntN, cntN, sumN, h]
theorem fst_n1 {p : Nat → Bool} {i : Nat} (h : fst p i = none) (c : p i = true) : nI i = oI (fst p (i + 1)) := by rw [fst, h]; simp only [c]; rfl
theorem fst_n0 {p : Nat → Bool} {i : Nat} (h : fst p i = none) (c : p i = false) : (-1 : Int32) = oI (fst p (i + 1)) := by rw [fst, h]; simp only [c]; rfl
theorem fst_s {p : Nat → Bool} {i k : Nat} (h : fst p i = some k) : nI k = oI (fst p (i + 1)) := by rw [fst, h]; rfl
theorem fst_f {p : Nat → Bool} {i : Nat} (c : p i = false) : oI (fst p i) = oI (fst p (i + 1)) := by
  rw [fst]
  cases fst p i with
  | none => simp only [c]; rfl
  | some k => rfl
theorem bst_n {p : Nat → Bool} {w : Nat → Nat} {i : Nat} (h : bst p w i = none) (c : p i = true) : nI i = oI (bst p w (i + 1)) := by rw [bst, h, c]; rfl
theorem bst_g {p : Nat → Bool} {w : Nat → Nat} {i k : Nat} (h : bst p w i = some k) (c : p i = true) (d : w k < w i) : nI i = oI (bst p w (i + 1)) := by rw [bst, h, c]; simp only [if_pos d]; rfl
theorem bst_l {p : Nat → Bool} {w : Nat → Nat} {i k : Nat} (h : bst p w i = some k) (c : p i = true) (d : w i ≤ w k) : nI k = oI (bst p w (i + 1)) := by rw [bst, h, c]; simp only [if_neg (Nat.not_lt.mpr d)]; rfl
theorem bst_f {p : Nat → Bool} {w : Nat → Nat} {i : Nat} (c : p i = false) : oI (bst p w i) = oI (bst p w (i + 1)) := by rw [bst, c]; rfl
theorem lwt_n {p : Nat → Bool} {w : Nat → Nat} {i : Nat} (h : lwt p w i = none) (c : p i = true) : nI i = oI (lwt p w (i + 1)) := by rw [lwt, h, c]; rfl
theorem lwt_g {p : Nat → Bool} {w : Nat → Nat} {i k : Nat} (h : lwt p w i = some k) (c : p i = true) (d : w i < w k) : nI i = oI (lwt p w (i + 1)) := by rw [lwt, h, c]; simp only [if_pos d]; rfl
theorem lwt_l {p : Nat → Bool} {w : Nat → Nat} {i k : Nat} (h : lwt p w i = some k) (c : p i = true) (d : w k ≤ w i) : nI k = oI (lwt p w (i + 1)) := by rw [lwt, h, c]; simp only [if_neg (Nat.not_lt.mpr d)]; rfl
theorem lwt_f {p : Nat → Bool} {w : Nat → Nat} {i : Nat} (c : p i = false) : oI (lwt p w i) = oI (lwt p w (i + 1)) := by rw [lwt, c]; rfl
theorem lwt_fn {p : Nat → Bool} {w : Nat → Nat} {i : Nat} (h : lwt p w i = none) (c : p i = false) : (-1 : Int32) = oI (lwt p w (i + 1)) := by rw [lwt, c, h]; rfl
theorem lwt_fs {p : Nat → Bool} {w : Nat → Nat} {i k : Nat} (h : lwt p w i = some k) (c : p i = false) : nI k = oI (lwt p w (i + 1)) := by rw [lwt, c, h]; rfl
theorem or_t {p : Nat → Bool} {i : Nat} (c : p i = true) : orN p i ||| i = orN p (i + 1) := by rw [orN, c]; rfl
theorem or_f {p : Nat → Bool} {i : Nat} (c : p i = false) : orN p i = orN p (i + 1) := by rw [orN, c]; rfl
theorem an_t {p : Nat → Bool} {a i : Nat} (c : p i = true) : andN p a i &&& i = andN p a (i + 1) := by rw [andN, c]; rfl
theorem an_f {p : Nat → Bool} {a i : Nat} (c : p i = false) : andN p a i = andN p a (i + 1) := by rw [andN, c]; rfl
theorem all_t {p : Nat → Bool} {i : Nat} (h : allN p i = true) (c : p i = true) : nI 1 = bI (allN p (i + 1)) := by rw [allN, h, c]; rfl
theorem all_f1 {p : Nat → Bool} {i : Nat} (h : allN p i = false) : nI 0 = bI (allN p (i + 1)) := by rw [allN, h]; rfl
theorem all_f2 {p : Nat → Bool} {i : Nat} (c : p i = false) : nI 0 = bI (allN p (i + 1)) := by rw [allN, c, Bool.and_false]; rfl
set_option maxHeartbeats 4000000 in
set_option maxRecDepth 100000 in
theorem k_X11_loads (l : Launch) (D : va_G) (cy : Nat → ClassId) (ad : Nat → Nat) (σ : Sg) (T : Ms) (f w : Int32) (hw : wfS σ) : MR l yX11_loads qX11_loads 4 [.ref (ad 0), .int (f), .int (w)] D cy (mw cy ad σ T) (a_loads σ f w) := by
  refine Met.ofW (cc := cX11_loads) (maxL := 7) (ret := (some .int)) (by decide) rfl ?_
  intro p e s m args below meth c s₁ B hml hv
  obtain ⟨rfl, hP, hK, hN⟩ := hv
  have hx := B.exec
  have hb := B.bytes
  have hr := B.returns
  have hlocks := B.notSynchronized
  have hts : ∀ cq ∈ tg, cq.before ([.ref (ad 0), .int (f), .int (w)] : List Value).toArray s = true := fun cq h => atoms_spec (ws := qX11_loads) B.pre cq (List.mem_cons_of_mem _ h)
  have hown : s.vm.findClass RX11 = some m.cls := findClass_of_methodNamed B.named
  have hl := lv_entry ([.ref (ad 0), .int (f), .int (w)]) (n := 7) (Nat.le_of_ble_eq_true rfl)
  rw [lg_entry_eq]
  generalize (lg_sl ([.ref (ad 0), .int (f), .int (w)]) ++ List.replicate (7 - (lg_sl ([.ref (ad 0), .int (f), .int (w)])).length) Slot.unset).toArray = ls at hl ⊢
  have hl : lv_has ls 7 [(0, .ref (ad 0)), (1, .int (f)), (2, .int (w))] := hl
  have hw1 := hw.1
  have hw2 := hw.2.1
  have hp8 := pw_8 hw1
  have hov := ov_lt hw
  have hmo := mo_lt hw
  have hof := of_lt hw
  have hpp := pw_pos (s_n σ)
  refine lv_aload_n hx hb dX11_loads_0 rfl (lv_at hl 0 rfl) ?_
  refine lv_iload_n hx hb dX11_loads_1 rfl (lv_at hl 1 rfl) ?_
  refine cr_v (n := 1) (As := [.int (f)]) (rest := []) ⟨hx, hb, hml, hown, hts⟩ (k_X11_isFerry l D cy ad σ T (f) hw) gvX11_184 (by decide +kernel) ⟨Nat.le_of_ble_eq_true rfl, Nat.le_of_ble_eq_true rfl⟩ hK hN hP 0 (mw_c0 cy ad σ T) rfl rfl hl.1 rfl (Nat.le_of_ble_eq_true rfl) dX11_loads_2 ⟨Nat.zero_le _, Nat.zero_le _⟩ ?_
  refine lb_if_ne (tgt := 11) hx hb dX11_loads_5 (by decide) (fun c5 => ?_) (fun c5 => ?_)
  · obtain ⟨f0, hf, rfl⟩ := ix_of c5 (by omega)
    have hl : lv_has ls 7 [(0, .ref (ad 0)), (1, .int (nI (f0))), (2, .int (w))] := hl
    refine lv_iload_n hx hb dX11_loads_11 rfl (lv_at hl 2 rfl) ?_
    refine lv_iconst (v := nI 0) hx hb dX11_loads_12 (by decide) ?_
    refine lv_iconst (v := nI 3) hx hb dX11_loads_13 (by decide) ?_
    refine cr_s (n := 3) (As := [.int (w), .int (nI (0)), .int (nI (3))]) (rest := []) ⟨hx, hb, hml, hown, hts⟩ (k_X11_in l (w) (nI (0)) (nI (3))) gsX11_51 (by decide +kernel) ⟨Nat.le_of_ble_eq_true rfl, Nat.le_of_ble_eq_true rfl⟩ rfl hl.1 rfl (Nat.le_of_ble_eq_true rfl) dX11_loads_14 ⟨Nat.zero_le _, Nat.zero_le _⟩ ?_
    refine lb_if_ne (tgt := 23) hx hb dX11_loads_17 (by decide) (fun c17 => ?_) (fun c17 => ?_)
    · obtain ⟨w0, hw0, rfl⟩ := ix_of (ix4 c17) (by omega)
      have hl : lv_has ls 7 [(0, .ref (ad 0)), (1, .int (nI (f0))), (2, .int (nI (w0)))] := hl
      refine lv_iconst (v := nI 0) hx hb dX11_loads_23 (by decide) ?_
      refine lv_istore_n (lv' := [(3, .int (nI (0))), (0, .ref (ad 0)), (1, .int (nI (f0))), (2, .int (nI (w0)))]) hx hb dX11_loads_24 rfl hl (by decide) rfl (fun ls hl => ?_)
      refine lv_iconst (v := -1) hx hb dX11_loads_25 (by decide) ?_
      refine lv_istore (lv' := [(4, .int (-1)), (3, .int (nI (0))), (0, .ref (ad 0)), (1, .int (nI (f0))), (2, .int (nI (w0)))]) hx hb dX11_loads_26 hl (by decide) rfl (fun ls hl => ?_)
      refine lv_iconst (v := -1) hx hb dX11_loads_28 (by decide) ?_
      refine lv_istore (lv' := [(5, .int (-1)), (4, .int (-1)), (3, .int (nI (0))), (0, .ref (ad 0)), (1, .int (nI (f0))), (2, .int (nI (w0)))]) hx hb dX11_loads_29 hl (by decide) rfl (fun ls hl => ?_)
      refine lv_iconst (v := nI 0) hx hb dX11_loads_31 (by decide) ?_
      refine lv_istore (lv' := [(6, .int (nI (0))), (5, .int (-1)), (4, .int (-1)), (3, .int (nI (0))), (0, .ref (ad 0)), (1, .int (nI (f0))), (2, .int (nI (w0)))]) hx hb dX11_loads_32 hl (by decide) rfl (fun ls hl => ?_)
      have lp : ∀ (k_lp i : Nat) (ls : Array Slot)  , i + k_lp = 2 ^ s_n σ → lv_has ls 7 [(6, .int (nI (i))), (3, .int (nI (cntN (riN σ f0) i))), (4, .int (oI (fst (riN σ f0) i))), (5, .int (oI (bst (riN σ f0) (wiA σ) i))), (0, .ref (ad 0)), (1, .int (nI (f0))), (2, .int (nI (w0)))] → W p l e (headSpec qX11_loads (rq 4)).room s m ([.ref (ad 0), .int (nI (f0)), .int (nI (w0))] : List Value).toArray below meth c s.heap [] 0 0 (MQ below (vp_Si (fun r => r = a_loads σ (nI f0) (nI w0))) ([.ref (ad 0), .int (nI (f0)), .int (nI (w0))] : List Value).toArray s 0 0 (fun _ => False)) (F0 m 34 ls []) := by
        intro k_lp
        induction k_lp with
        | zero =>
          intro i ls hi_lp hl
          refine lv_iload hx hb dX11_loads_34 (lv_at hl 0 rfl) ?_
          refine lv_iconst (v := nI 1) hx hb dX11_loads_36 (by decide) ?_
          refine lv_aload_n hx hb dX11_loads_37 rfl (lv_at hl 4 rfl) ?_
          refine va_get (D := D) (ci := 10) (v := .int (nI (s_n σ))) (C := RX11) (T := TX11) (N := 31) hx hb hts ni11 hown hK hP 0 (mw_c0 cy ad σ T) rfl 0 (by decide) (hts _ flX11_47) (fun _ h => h) rfl dX11_loads_38 ?_
          refine ln_ishl hx hb dX11_loads_41 (by omega) (by omega) ?_
          refine ln_icmp_ge (tgt := 121) hx hb dX11_loads_42 (by decide) (by omega) (by omega) (fun c42 => ?_) (fun c42 => ?_)
          · refine lv_iload_n hx hb dX11_loads_121 rfl (lv_at hl 6 rfl) ?_
            refine ln_if_ne (tgt := 129) hx hb dX11_loads_122 (by decide) (by omega) (fun c122 => ?_) (fun c122 => ?_)
            · refine lv_iload_n hx hb dX11_loads_129 rfl (lv_at hl 6 rfl) ?_
              refine lv_iconst (v := nI 1) hx hb dX11_loads_130 (by decide) ?_
              refine ln_icmp_ne (tgt := 139) hx hb dX11_loads_131 (by decide) (by omega) (by omega) (fun c131 => ?_) (fun c131 => ?_)
              · refine lv_iload_n hx hb dX11_loads_139 rfl (lv_at hl 6 rfl) ?_
                refine lv_iconst (v := nI 2) hx hb dX11_loads_140 (by decide) ?_
                refine ln_icmp_eq (tgt := 150) hx hb dX11_loads_141 (by decide) (by omega) (by omega) (fun c141 => ?_) (fun c141 => ?_)
                · refine lv_iload hx hb dX11_loads_150 (lv_at hl 3 rfl) ?_
                  refine lv_goto (tgt := 161) hx hb dX11_loads_152 (by decide) ?_
                  exact rt_i hx hb hr hlocks (by rw [a_loads, c5, ix4 c17, tk_nI (k := f0) (by omega), tk_nI (k := w0) (by omega), if_neg (by decide), if_neg (by decide)]; have hi2 : i = 2 ^ s_n σ := (by omega); (first | rw [hi2] at hqb | skip); (first | rw [hi2] | skip); first | (rw [show w0 = 0 by omega]; rfl; done) | (rw [show w0 = 1 by omega]; rfl; done) | (rw [show w0 = 2 by omega]; rfl; done) | (rw [show w0 = 3 by omega]; simp only [v_loads, hqb]; done)) dX11_loads_161
                · rcases hqb : bst (riN σ f0) (wiA σ) i with _ | b
                  · rw [hqb] at hl
                    have hl : lv_has ls 7 [(6, .int (nI (i))), (3, .int (nI (cntN (riN σ f0) i))), (4, .int (oI (fst (riN σ f0) i))), (5, .int (-1)), (0, .ref (ad 0)), (1, .int (nI (f0))), (2, .int (nI (w0)))] := hl
                    refine lv_iload hx hb dX11_loads_144 (lv_at hl 3 rfl) ?_
                    refine lv_iconst (v := -1) hx hb dX11_loads_146 (by decide) ?_
                    refine lv_icmp_ne (tgt := 155) hx hb dX11_loads_147 (by decide) (fun c => absurd rfl c) (fun _ => ?_)
                    refine lv_iload hx hb dX11_loads_150 (lv_at hl 3 rfl) ?_
                    refine lv_goto (tgt := 161) hx hb dX11_loads_152 (by decide) ?_
                    exact rt_i hx hb hr hlocks (by rw [a_loads, c5, ix4 c17, tk_nI (k := f0) (by omega), tk_nI (k := w0) (by omega), if_neg (by decide), if_neg (by decide)]; have hi2 : i = 2 ^ s_n σ := (by omega); (first | rw [hi2] at hqb | skip); (first | rw [hi2] | skip); first | (rw [show w0 = 0 by omega]; rfl; done) | (rw [show w0 = 1 by omega]; rfl; done) | (rw [show w0 = 2 by omega]; rfl; done) | (rw [show w0 = 3 by omega]; simp only [v_loads, hqb]; done)) dX11_loads_161
                  · rw [hqb] at hl
                    have hl : lv_has ls 7 [(6, .int (nI (i))), (3, .int (nI (cntN (riN σ f0) i))), (4, .int (oI (fst (riN σ f0) i))), (5, .int (nI (b))), (0, .ref (ad 0)), (1, .int (nI (f0))), (2, .int (nI (w0)))] := hl
                    have hltb := bst_lt hqb
                    refine lv_iload hx hb dX11_loads_144 (lv_at hl 3 rfl) ?_
                    refine lv_iconst (v := -1) hx hb dX11_loads_146 (by decide) ?_
                    refine lv_icmp_ne (tgt := 155) hx hb dX11_loads_147 (by decide) (fun _ => ?_) (fun c => absurd c (m1_ne _ (by omega)))
                    refine lv_aload_n hx hb dX11_loads_155 rfl (lv_at hl 4 rfl) ?_
                    refine lv_iload hx hb dX11_loads_156 (lv_at hl 3 rfl) ?_
                    refine cr_v (n := 1) (As := [.int (nI (b))]) (rest := []) ⟨hx, hb, hml, hown, hts⟩ (k_X11_wishes l D cy ad σ T b hw (by omega)) gvX11_211 (by decide +kernel) ⟨Nat.le_of_ble_eq_true rfl, Nat.le_of_ble_eq_true rfl⟩ hK hN hP 0 (mw_c0 cy ad σ T) rfl rfl hl.1 rfl (Nat.le_of_ble_eq_true rfl) dX11_loads_158 ⟨Nat.zero_le _, Nat.zero_le _⟩ ?_
                    exact rt_i hx hb hr hlocks (by rw [a_loads, c5, ix4 c17, tk_nI (k := f0) (by omega), tk_nI (k := w0) (by omega), if_neg (by decide), if_neg (by decide)]; have hi2 : i = 2 ^ s_n σ := (by omega); (first | rw [hi2] at hqb | skip); (first | rw [hi2] | skip); first | (rw [show w0 = 0 by omega]; rfl; done) | (rw [show w0 = 1 by omega]; rfl; done) | (rw [show w0 = 2 by omega]; rfl; done) | (rw [show w0 = 3 by omega]; simp only [v_loads, hqb]; done)) dX11_loads_161
              · refine lv_iload hx hb dX11_loads_134 (lv_at hl 2 rfl) ?_
                refine lv_goto (tgt := 161) hx hb dX11_loads_136 (by decide) ?_
                exact rt_i hx hb hr hlocks (by rw [a_loads, c5, ix4 c17, tk_nI (k := f0) (by omega), tk_nI (k := w0) (by omega), if_neg (by decide), if_neg (by decide)]; have hi2 : i = 2 ^ s_n σ := (by omega); (first | rw [hi2] at hqb | skip); (first | rw [hi2] | skip); first | (rw [show w0 = 0 by omega]; rfl; done) | (rw [show w0 = 1 by omega]; rfl; done) | (rw [show w0 = 2 by omega]; rfl; done) | (rw [show w0 = 3 by omega]; simp only [v_loads, hqb]; done)) dX11_loads_161
            · refine lv_iload_n hx hb dX11_loads_125 rfl (lv_at hl 1 rfl) ?_
              refine lv_goto (tgt := 161) hx hb dX11_loads_126 (by decide) ?_
              exact rt_i hx hb hr hlocks (by rw [a_loads, c5, ix4 c17, tk_nI (k := f0) (by omega), tk_nI (k := w0) (by omega), if_neg (by decide), if_neg (by decide)]; have hi2 : i = 2 ^ s_n σ := (by omega); (first | rw [hi2] at hqb | skip); (first | rw [hi2] | skip); first | (rw [show w0 = 0 by omega]; rfl; done) | (rw [show w0 = 1 by omega]; rfl; done) | (rw [show w0 = 2 by omega]; rfl; done) | (rw [show w0 = 3 by omega]; simp only [v_loads, hqb]; done)) dX11_loads_161
          · exact absurd c42 (by omega)
        | succ k_lp ih_lp =>
          intro i ls hi_lp hl
          refine lv_iload hx hb dX11_loads_34 (lv_at hl 0 rfl) ?_
          refine lv_iconst (v := nI 1) hx hb dX11_loads_36 (by decide) ?_
          refine lv_aload_n hx hb dX11_loads_37 rfl (lv_at hl 4 rfl) ?_
          refine va_get (D := D) (ci := 10) (v := .int (nI (s_n σ))) (C := RX11) (T := TX11) (N := 31) hx hb hts ni11 hown hK hP 0 (mw_c0 cy ad σ T) rfl 0 (by decide) (hts _ flX11_47) (fun _ h => h) rfl dX11_loads_38 ?_
          refine ln_ishl hx hb dX11_loads_41 (by omega) (by omega) ?_
          refine ln_icmp_ge (tgt := 121) hx hb dX11_loads_42 (by decide) (by omega) (by omega) (fun c42 => ?_) (fun c42 => ?_)
          · exact absurd c42 (by omega)
          · refine lv_aload_n hx hb dX11_loads_45 rfl (lv_at hl 4 rfl) ?_
            refine lv_iload_n hx hb dX11_loads_46 rfl (lv_at hl 5 rfl) ?_
            refine lv_iload hx hb dX11_loads_47 (lv_at hl 0 rfl) ?_
            refine lv_aload_n hx hb dX11_loads_49 rfl (lv_at hl 4 rfl) ?_
            refine va_get (D := D) (ci := 10) (v := .int (nI (s_ov σ))) (C := RX11) (T := TX11) (N := 31) hx hb hts ni11 hown hK hP 0 (mw_c0 cy ad σ T) rfl 17 (by decide) (hts _ flX11_155) (fun _ h => h) rfl dX11_loads_50 ?_
            refine lv_aload_n hx hb dX11_loads_53 rfl (lv_at hl 4 rfl) ?_
            refine va_get (D := D) (ci := 10) (v := .int (nI (s_mo σ))) (C := RX11) (T := TX11) (N := 31) hx hb hts ni11 hown hK hP 0 (mw_c0 cy ad σ T) rfl 18 (by decide) (hts _ flX11_158) (fun _ h => h) rfl dX11_loads_54 ?_
            refine lv_aload_n hx hb dX11_loads_57 rfl (lv_at hl 4 rfl) ?_
            refine va_get (D := D) (ci := 10) (v := .int (nI (s_of σ))) (C := RX11) (T := TX11) (N := 31) hx hb hts ni11 hown hK hP 0 (mw_c0 cy ad σ T) rfl 19 (by decide) (hts _ flX11_161) (fun _ h => h) rfl dX11_loads_58 ?_
            refine cr_v (n := 5) (As := [.int (nI (f0)), .int (nI (i)), .int (nI (s_ov σ)), .int (nI (s_mo σ)), .int (nI (s_of σ))]) (rest := []) ⟨hx, hb, hml, hown, hts⟩ (k_X11_isRight l D cy ad σ T f0 i (s_ov σ) (s_mo σ) (s_of σ) hw (by omega) (by omega) (by omega) (by omega) (by omega)) gvX11_207 (by decide +kernel) ⟨Nat.le_of_ble_eq_true rfl, Nat.le_of_ble_eq_true rfl⟩ hK hN hP 0 (mw_c0 cy ad σ T) rfl rfl hl.1 rfl (Nat.le_of_ble_eq_true rfl) dX11_loads_61 ⟨Nat.zero_le _, Nat.zero_le _⟩ ?_
            refine lb_if_eq (tgt := 115) hx hb dX11_loads_64 (by decide) (fun c64 => ?_) (fun c64 => ?_)
            · refine ln_iinc (lv' := [(6, .int (nI (i + 1))), (3, .int (nI (cntN (riN σ f0) i))), (4, .int (oI (fst (riN σ f0) i))), (5, .int (oI (bst (riN σ f0) (wiA σ) i))), (0, .ref (ad 0)), (1, .int (nI (f0))), (2, .int (nI (w0)))]) hx hb dX11_loads_115 hl (k := 0) (n := 1) rfl (by decide) rfl (fun ls hl => ?_)
              refine lv_goto (tgt := 34) hx hb dX11_loads_118 (by decide) ?_
              have hl : lv_has ls 7 [(6, .int (nI (i + 1))), (3, .int (nI (cntN (riN σ f0) (i + 1)))), (4, .int (oI (fst (riN σ f0) (i + 1)))), (5, .int (oI (bst (riN σ f0) (wiA σ) (i + 1)))), (0, .ref (ad 0)), (1, .int (nI (f0))), (2, .int (nI (w0)))] := by rw [← (show (nI (cntN (riN σ f0) i)) = (nI (cntN (riN σ f0) (i + 1))) from congrArg nI (by first | exact cntN_t c64 | exact cntN_f c64)), ← (show (oI (fst (riN σ f0) i)) = (oI (fst (riN σ f0) (i + 1))) from by first | exact fst_n1 hqa c64 | exact fst_s hqa | exact fst_f c64), ← (show (oI (bst (riN σ f0) (wiA σ) i)) = (oI (bst (riN σ f0) (wiA σ) (i + 1))) from by first | exact bst_n hqb c64 | exact bst_g hqb c64 c103 | exact bst_l hqb c64 c103 | exact bst_f c64)]; exact lv_sub hl [0, 1, 2, 3, 4, 5, 6] rfl
              exact ih_lp (i + 1) ls (by omega)  hl
            · refine ln_iinc (lv' := [(3, .int (nI ((cntN (riN σ f0) i) + 1))), (6, .int (nI (i))), (4, .int (oI (fst (riN σ f0) i))), (5, .int (oI (bst (riN σ f0) (wiA σ) i))), (0, .ref (ad 0)), (1, .int (nI (f0))), (2, .int (nI (w0)))]) hx hb dX11_loads_67 hl (k := 1) (n := 1) rfl (by decide) rfl (fun ls hl => ?_)
              rcases hqa : fst (riN σ f0) i with _ | a
              · rw [hqa] at hl
                have hl : lv_has ls 7 [(3, .int (nI ((cntN (riN σ f0) i) + 1))), (6, .int (nI (i))), (4, .int (-1)), (5, .int (oI (bst (riN σ f0) (wiA σ) i))), (0, .ref (ad 0)), (1, .int (nI (f0))), (2, .int (nI (w0)))] := hl
                refine lv_iload hx hb dX11_loads_70 (lv_at hl 2 rfl) ?_
                refine lv_iconst (v := -1) hx hb dX11_loads_72 (by decide) ?_
                refine lv_icmp_ne (tgt := 81) hx hb dX11_loads_73 (by decide) (fun c => absurd rfl c) (fun _ => ?_)
                refine lv_iload hx hb dX11_loads_76 (lv_at hl 1 rfl) ?_
                refine lv_goto (tgt := 83) hx hb dX11_loads_78 (by decide) ?_
                refine lv_istore (lv' := [(4, .int (nI (i))), (3, .int (nI ((cntN (riN σ f0) i) + 1))), (6, .int (nI (i))), (5, .int (oI (bst (riN σ f0) (wiA σ) i))), (0, .ref (ad 0)), (1, .int (nI (f0))), (2, .int (nI (w0)))]) hx hb dX11_loads_83 hl (by decide) rfl (fun ls hl => ?_)
                rcases hqb : bst (riN σ f0) (wiA σ) i with _ | b
                · rw [hqb] at hl
                  have hl : lv_has ls 7 [(4, .int (nI (i))), (3, .int (nI ((cntN (riN σ f0) i) + 1))), (6, .int (nI (i))), (5, .int (-1)), (0, .ref (ad 0)), (1, .int (nI (f0))), (2, .int (nI (w0)))] := hl
                  refine lv_iload hx hb dX11_loads_85 (lv_at hl 3 rfl) ?_
                  refine lv_iconst (v := -1) hx hb dX11_loads_87 (by decide) ?_
                  refine lv_icmp_eq (tgt := 106) hx hb dX11_loads_88 (by decide) (fun _ => ?_) (fun c => absurd rfl c)
                  refine lv_iload hx hb dX11_loads_106 (lv_at hl 2 rfl) ?_
                  refine lv_goto (tgt := 113) hx hb dX11_loads_108 (by decide) ?_
                  refine lv_istore (lv' := [(5, .int (nI (i))), (4, .int (nI (i))), (3, .int (nI ((cntN (riN σ f0) i) + 1))), (6, .int (nI (i))), (0, .ref (ad 0)), (1, .int (nI (f0))), (2, .int (nI (w0)))]) hx hb dX11_loads_113 hl (by decide) rfl (fun ls hl => ?_)
                  refine ln_iinc (lv' := [(6, .int (nI (i + 1))), (5, .int (nI (i))), (4, .int (nI (i))), (3, .int (nI ((cntN (riN σ f0) i) + 1))), (0, .ref (ad 0)), (1, .int (nI (f0))), (2, .int (nI (w0)))]) hx hb dX11_loads_115 hl (k := 3) (n := 1) rfl (by decide) rfl (fun ls hl => ?_)
                  refine lv_goto (tgt := 34) hx hb dX11_loads_118 (by decide) ?_
                  have hl : lv_has ls 7 [(6, .int (nI (i + 1))), (3, .int (nI (cntN (riN σ f0) (i + 1)))), (4, .int (oI (fst (riN σ f0) (i + 1)))), (5, .int (oI (bst (riN σ f0) (wiA σ) (i + 1)))), (0, .ref (ad 0)), (1, .int (nI (f0))), (2, .int (nI (w0)))] := by rw [← (show (nI ((cntN (riN σ f0) i) + 1)) = (nI (cntN (riN σ f0) (i + 1))) from congrArg nI (by first | exact cntN_t c64 | exact cntN_f c64)), ← (show (nI (i)) = (oI (fst (riN σ f0) (i + 1))) from by first | exact fst_n1 hqa c64 | exact fst_s hqa | exact fst_f c64), ← (show (nI (i)) = (oI (bst (riN σ f0) (wiA σ) (i + 1))) from by first | exact bst_n hqb c64 | exact bst_g hqb c64 c103 | exact bst_l hqb c64 c103 | exact bst_f c64)]; exact lv_sub hl [0, 3, 2, 1, 4, 5, 6] rfl
                  exact ih_lp (i + 1) ls (by omega)  hl
                · rw [hqb] at hl
                  have hl : lv_has ls 7 [(4, .int (nI (i))), (3, .int (nI ((cntN (riN σ f0) i) + 1))), (6, .int (nI (i))), (5, .int (nI (b))), (0, .ref (ad 0)), (1, .int (nI (f0))), (2, .int (nI (w0)))] := hl
                  have hltb := bst_lt hqb
                  refine lv_iload hx hb dX11_loads_85 (lv_at hl 3 rfl) ?_
                  refine lv_iconst (v := -1) hx hb dX11_loads_87 (by decide) ?_
                  refine lv_icmp_eq (tgt := 106) hx hb dX11_loads_88 (by decide) (fun c => absurd c (m1_ne _ (by omega))) (fun _ => ?_)
                  have hwa := wiA_le hw i
                  have hwb := wiA_le hw b
                  refine lv_aload_n hx hb dX11_loads_91 rfl (lv_at hl 4 rfl) ?_
                  refine lv_iload hx hb dX11_loads_92 (lv_at hl 2 rfl) ?_
                  refine cr_v (n := 1) (As := [.int (nI (i))]) (rest := []) ⟨hx, hb, hml, hown, hts⟩ (k_X11_wishes l D cy ad σ T i hw (by omega)) gvX11_211 (by decide +kernel) ⟨Nat.le_of_ble_eq_true rfl, Nat.le_of_ble_eq_true rfl⟩ hK hN hP 0 (mw_c0 cy ad σ T) rfl rfl hl.1 rfl (Nat.le_of_ble_eq_true rfl) dX11_loads_94 ⟨Nat.zero_le _, Nat.zero_le _⟩ ?_
                  refine lv_aload_n hx hb dX11_loads_97 rfl (lv_at hl 4 rfl) ?_
                  refine lv_iload hx hb dX11_loads_98 (lv_at hl 3 rfl) ?_
                  refine cr_v (n := 1) (As := [.int (nI (b))]) (rest := [.int (nI (wiA σ i))]) ⟨hx, hb, hml, hown, hts⟩ (k_X11_wishes l D cy ad σ T b hw (by omega)) gvX11_211 (by decide +kernel) ⟨Nat.le_of_ble_eq_true rfl, Nat.le_of_ble_eq_true rfl⟩ hK hN hP 0 (mw_c0 cy ad σ T) rfl rfl hl.1 rfl (Nat.le_of_ble_eq_true rfl) dX11_loads_100 ⟨Nat.zero_le _, Nat.zero_le _⟩ ?_
                  refine ln_icmp_le (tgt := 111) hx hb dX11_loads_103 (by decide) (by omega) (by omega) (fun c103 => ?_) (fun c103 => ?_)
                  · refine lv_iload hx hb dX11_loads_111 (lv_at hl 3 rfl) ?_
                    refine lv_istore (lv' := [(5, .int (nI (b))), (4, .int (nI (i))), (3, .int (nI ((cntN (riN σ f0) i) + 1))), (6, .int (nI (i))), (0, .ref (ad 0)), (1, .int (nI (f0))), (2, .int (nI (w0)))]) hx hb dX11_loads_113 hl (by decide) rfl (fun ls hl => ?_)
                    refine ln_iinc (lv' := [(6, .int (nI (i + 1))), (5, .int (nI (b))), (4, .int (nI (i))), (3, .int (nI ((cntN (riN σ f0) i) + 1))), (0, .ref (ad 0)), (1, .int (nI (f0))), (2, .int (nI (w0)))]) hx hb dX11_loads_115 hl (k := 3) (n := 1) rfl (by decide) rfl (fun ls hl => ?_)
                    refine lv_goto (tgt := 34) hx hb dX11_loads_118 (by decide) ?_
                    have hl : lv_has ls 7 [(6, .int (nI (i + 1))), (3, .int (nI (cntN (riN σ f0) (i + 1)))), (4, .int (oI (fst (riN σ f0) (i + 1)))), (5, .int (oI (bst (riN σ f0) (wiA σ) (i + 1)))), (0, .ref (ad 0)), (1, .int (nI (f0))), (2, .int (nI (w0)))] := by rw [← (show (nI ((cntN (riN σ f0) i) + 1)) = (nI (cntN (riN σ f0) (i + 1))) from congrArg nI (by first | exact cntN_t c64 | exact cntN_f c64)), ← (show (nI (i)) = (oI (fst (riN σ f0) (i + 1))) from by first | exact fst_n1 hqa c64 | exact fst_s hqa | exact fst_f c64), ← (show (nI (b)) = (oI (bst (riN σ f0) (wiA σ) (i + 1))) from by first | exact bst_n hqb c64 | exact bst_g hqb c64 c103 | exact bst_l hqb c64 c103 | exact bst_f c64)]; exact lv_sub hl [0, 3, 2, 1, 4, 5, 6] rfl
                    exact ih_lp (i + 1) ls (by omega)  hl
                  · refine lv_iload hx hb dX11_loads_106 (lv_at hl 2 rfl) ?_
                    refine lv_goto (tgt := 113) hx hb dX11_loads_108 (by decide) ?_
                    refine lv_istore (lv' := [(5, .int (nI (i))), (4, .int (nI (i))), (3, .int (nI ((cntN (riN σ f0) i) + 1))), (6, .int (nI (i))), (0, .ref (ad 0)), (1, .int (nI (f0))), (2, .int (nI (w0)))]) hx hb dX11_loads_113 hl (by decide) rfl (fun ls hl => ?_)
                    refine ln_iinc (lv' := [(6, .int (nI (i + 1))), (5, .int (nI (i))), (4, .int (nI (i))), (3, .int (nI ((cntN (riN σ f0) i) + 1))), (0, .ref (ad 0)), (1, .int (nI (f0))), (2, .int (nI (w0)))]) hx hb dX11_loads_115 hl (k := 3) (n := 1) rfl (by decide) rfl (fun ls hl => ?_)
                    refine lv_goto (tgt := 34) hx hb dX11_loads_118 (by decide) ?_
                    have hl : lv_has ls 7 [(6, .int (nI (i + 1))), (3, .int (nI (cntN (riN σ f0) (i + 1)))), (4, .int (oI (fst (riN σ f0) (i + 1)))), (5, .int (oI (bst (riN σ f0) (wiA σ) (i + 1)))), (0, .ref (ad 0)), (1, .int (nI (f0))), (2, .int (nI (w0)))] := by rw [← (show (nI ((cntN (riN σ f0) i) + 1)) = (nI (cntN (riN σ f0) (i + 1))) from congrArg nI (by first | exact cntN_t c64 | exact cntN_f c64)), ← (show (nI (i)) = (oI (fst (riN σ f0) (i + 1))) from by first | exact fst_n1 hqa c64 | exact fst_s hqa | exact fst_f c64), ← (show (nI (i)) = (oI (bst (riN σ f0) (wiA σ) (i + 1))) from by first | exact bst_n hqb c64 | exact bst_g hqb c64 c103 | exact bst_l hqb c64 c103 | exact bst_f c64)]; exact lv_sub hl [0, 3, 2, 1, 4, 5, 6] rfl
                    exact ih_lp (i + 1) ls (by omega)  hl
              · rw [hqa] at hl
                have hl : lv_has ls 7 [(3, .int (nI ((cntN (riN σ f0) i) + 1))), (6, .int (nI (i))), (4, .int (nI (a))), (5, .int (oI (bst (riN σ f0) (wiA σ) i))), (0, .ref (ad 0)), (1, .int (nI (f0))), (2, .int (nI (w0)))] := hl
                have hlta := fst_lt hqa
                refine lv_iload hx hb dX11_loads_70 (lv_at hl 2 rfl) ?_
                refine lv_iconst (v := -1) hx hb dX11_loads_72 (by decide) ?_
                refine lv_icmp_ne (tgt := 81) hx hb dX11_loads_73 (by decide) (fun _ => ?_) (fun c => absurd c (m1_ne _ (by omega)))
                refine lv_iload hx hb dX11_loads_81 (lv_at hl 2 rfl) ?_
                refine lv_istore (lv' := [(4, .int (nI (a))), (3, .int (nI ((cntN (riN σ f0) i) + 1))), (6, .int (nI (i))), (5, .int (oI (bst (riN σ f0) (wiA σ) i))), (0, .ref (ad 0)), (1, .int (nI (f0))), (2, .int (nI (w0)))]) hx hb dX11_loads_83 hl (by decide) rfl (fun ls hl => ?_)
                rcases hqb : bst (riN σ f0) (wiA σ) i with _ | b
                · rw [hqb] at hl
                  have hl : lv_has ls 7 [(4, .int (nI (a))), (3, .int (nI ((cntN (riN σ f0) i) + 1))), (6, .int (nI (i))), (5, .int (-1)), (0, .ref (ad 0)), (1, .int (nI (f0))), (2, .int (nI (w0)))] := hl
                  refine lv_iload hx hb dX11_loads_85 (lv_at hl 3 rfl) ?_
                  refine lv_iconst (v := -1) hx hb dX11_loads_87 (by decide) ?_
                  refine lv_icmp_eq (tgt := 106) hx hb dX11_loads_88 (by decide) (fun _ => ?_) (fun c => absurd rfl c)
                  refine lv_iload hx hb dX11_loads_106 (lv_at hl 2 rfl) ?_
                  refine lv_goto (tgt := 113) hx hb dX11_loads_108 (by decide) ?_
                  refine lv_istore (lv' := [(5, .int (nI (i))), (4, .int (nI (a))), (3, .int (nI ((cntN (riN σ f0) i) + 1))), (6, .int (nI (i))), (0, .ref (ad 0)), (1, .int (nI (f0))), (2, .int (nI (w0)))]) hx hb dX11_loads_113 hl (by decide) rfl (fun ls hl => ?_)
                  refine ln_iinc (lv' := [(6, .int (nI (i + 1))), (5, .int (nI (i))), (4, .int (nI (a))), (3, .int (nI ((cntN (riN σ f0) i) + 1))), (0, .ref (ad 0)), (1, .int (nI (f0))), (2, .int (nI (w0)))]) hx hb dX11_loads_115 hl (k := 3) (n := 1) rfl (by decide) rfl (fun ls hl => ?_)
                  refine lv_goto (tgt := 34) hx hb dX11_loads_118 (by decide) ?_
                  have hl : lv_has ls 7 [(6, .int (nI (i + 1))), (3, .int (nI (cntN (riN σ f0) (i + 1)))), (4, .int (oI (fst (riN σ f0) (i + 1)))), (5, .int (oI (bst (riN σ f0) (wiA σ) (i + 1)))), (0, .ref (ad 0)), (1, .int (nI (f0))), (2, .int (nI (w0)))] := by rw [← (show (nI ((cntN (riN σ f0) i) + 1)) = (nI (cntN (riN σ f0) (i + 1))) from congrArg nI (by first | exact cntN_t c64 | exact cntN_f c64)), ← (show (nI (a)) = (oI (fst (riN σ f0) (i + 1))) from by first | exact fst_n1 hqa c64 | exact fst_s hqa | exact fst_f c64), ← (show (nI (i)) = (oI (bst (riN σ f0) (wiA σ) (i + 1))) from by first | exact bst_n hqb c64 | exact bst_g hqb c64 c103 | exact bst_l hqb c64 c103 | exact bst_f c64)]; exact lv_sub hl [0, 3, 2, 1, 4, 5, 6] rfl
                  exact ih_lp (i + 1) ls (by omega)  hl
                · rw [hqb] at hl
                  have hl : lv_has ls 7 [(4, .int (nI (a))), (3, .int (nI ((cntN (riN σ f0) i) + 1))), (6, .int (nI (i))), (5, .int (nI (b))), (0, .ref (ad 0)), (1, .int (nI (f0))), (2, .int (nI (w0)))] := hl
                  have hltb := bst_lt hqb
                  refine lv_iload hx hb dX11_loads_85 (lv_at hl 3 rfl) ?_
                  refine lv_iconst (v := -1) hx hb dX11_loads_87 (by decide) ?_
                  refine lv_icmp_eq (tgt := 106) hx hb dX11_loads_88 (by decide) (fun c => absurd c (m1_ne _ (by omega))) (fun _ => ?_)
                  have hwa := wiA_le hw i
                  have hwb := wiA_le hw b
                  refine lv_aload_n hx hb dX11_loads_91 rfl (lv_at hl 4 rfl) ?_
                  refine lv_iload hx hb dX11_loads_92 (lv_at hl 2 rfl) ?_
                  refine cr_v (n := 1) (As := [.int (nI (i))]) (rest := []) ⟨hx, hb, hml, hown, hts⟩ (k_X11_wishes l D cy ad σ T i hw (by omega)) gvX11_211 (by decide +kernel) ⟨Nat.le_of_ble_eq_true rfl, Nat.le_of_ble_eq_true rfl⟩ hK hN hP 0 (mw_c0 cy ad σ T) rfl rfl hl.1 rfl (Nat.le_of_ble_eq_true rfl) dX11_loads_94 ⟨Nat.zero_le _, Nat.zero_le _⟩ ?_
                  refine lv_aload_n hx hb dX11_loads_97 rfl (lv_at hl 4 rfl) ?_
                  refine lv_iload hx hb dX11_loads_98 (lv_at hl 3 rfl) ?_
                  refine cr_v (n := 1) (As := [.int (nI (b))]) (rest := [.int (nI (wiA σ i))]) ⟨hx, hb, hml, hown, hts⟩ (k_X11_wishes l D cy ad σ T b hw (by omega)) gvX11_211 (by decide +kernel) ⟨Nat.le_of_ble_eq_true rfl, Nat.le_of_ble_eq_true rfl⟩ hK hN hP 0 (mw_c0 cy ad σ T) rfl rfl hl.1 rfl (Nat.le_of_ble_eq_true rfl) dX11_loads_100 ⟨Nat.zero_le _, Nat.zero_le _⟩ ?_
                  refine ln_icmp_le (tgt := 111) hx hb dX11_loads_103 (by decide) (by omega) (by omega) (fun c103 => ?_) (fun c103 => ?_)
                  · refine lv_iload hx hb dX11_loads_111 (lv_at hl 3 rfl) ?_
                    refine lv_istore (lv' := [(5, .int (nI (b))), (4, .int (nI (a))), (3, .int (nI ((cntN (riN σ f0) i) + 1))), (6, .int (nI (i))), (0, .ref (ad 0)), (1, .int (nI (f0))), (2, .int (nI (w0)))]) hx hb dX11_loads_113 hl (by decide) rfl (fun ls hl => ?_)
                    refine ln_iinc (lv' := [(6, .int (nI (i + 1))), (5, .int (nI (b))), (4, .int (nI (a))), (3, .int (nI ((cntN (riN σ f0) i) + 1))), (0, .ref (ad 0)), (1, .int (nI (f0))), (2, .int (nI (w0)))]) hx hb dX11_loads_115 hl (k := 3) (n := 1) rfl (by decide) rfl (fun ls hl => ?_)
                    refine lv_goto (tgt := 34) hx hb dX11_loads_118 (by decide) ?_
                    have hl : lv_has ls 7 [(6, .int (nI (i + 1))), (3, .int (nI (cntN (riN σ f0) (i + 1)))), (4, .int (oI (fst (riN σ f0) (i + 1)))), (5, .int (oI (bst (riN σ f0) (wiA σ) (i + 1)))), (0, .ref (ad 0)), (1, .int (nI (f0))), (2, .int (nI (w0)))] := by rw [← (show (nI ((cntN (riN σ f0) i) + 1)) = (nI (cntN (riN σ f0) (i + 1))) from congrArg nI (by first | exact cntN_t c64 | exact cntN_f c64)), ← (show (nI (a)) = (oI (fst (riN σ f0) (i + 1))) from by first | exact fst_n1 hqa c64 | exact fst_s hqa | exact fst_f c64), ← (show (nI (b)) = (oI (bst (riN σ f0) (wiA σ) (i + 1))) from by first | exact bst_n hqb c64 | exact bst_g hqb c64 c103 | exact bst_l hqb c64 c103 | exact bst_f c64)]; exact lv_sub hl [0, 3, 2, 1, 4, 5, 6] rfl
                    exact ih_lp (i + 1) ls (by omega)  hl
                  · refine lv_iload hx hb dX11_loads_106 (lv_at hl 2 rfl) ?_
                    refine lv_goto (tgt := 113) hx hb dX11_loads_108 (by decide) ?_
                    refine lv_istore (lv' := [(5, .int (nI (i))), (4, .int (nI (a))), (3, .int (nI ((cntN (riN σ f0) i) + 1))), (6, .int (nI (i))), (0, .ref (ad 0)), (1, .int (nI (f0))), (2, .int (nI (w0)))]) hx hb dX11_loads_113 hl (by decide) rfl (fun ls hl => ?_)
                    refine ln_iinc (lv' := [(6, .int (nI (i + 1))), (5, .int (nI (i))), (4, .int (nI (a))), (3, .int (nI ((cntN (riN σ f0) i) + 1))), (0, .ref (ad 0)), (1, .int (nI (f0))), (2, .int (nI (w0)))]) hx hb dX11_loads_115 hl (k := 3) (n := 1) rfl (by decide) rfl (fun ls hl => ?_)
                    refine lv_goto (tgt := 34) hx hb dX11_loads_118 (by decide) ?_
                    have hl : lv_has ls 7 [(6, .int (nI (i + 1))), (3, .int (nI (cntN (riN σ f0) (i + 1)))), (4, .int (oI (fst (riN σ f0) (i + 1)))), (5, .int (oI (bst (riN σ f0) (wiA σ) (i + 1)))), (0, .ref (ad 0)), (1, .int (nI (f0))), (2, .int (nI (w0)))] := by rw [← (show (nI ((cntN (riN σ f0) i) + 1)) = (nI (cntN (riN σ f0) (i + 1))) from congrArg nI (by first | exact cntN_t c64 | exact cntN_f c64)), ← (show (nI (a)) = (oI (fst (riN σ f0) (i + 1))) from by first | exact fst_n1 hqa c64 | exact fst_s hqa | exact fst_f c64), ← (show (nI (i)) = (oI (bst (riN σ f0) (wiA σ) (i + 1))) from by first | exact bst_n hqb c64 | exact bst_g hqb c64 c103 | exact bst_l hqb c64 c103 | exact bst_f c64)]; exact lv_sub hl [0, 3, 2, 1, 4, 5, 6] rfl
                    exact ih_lp (i + 1) ls (by omega)  hl
      have hl : lv_has ls 7 [(6, .int (nI (0))), (3, .int (nI (cntN (riN σ f0) 0))), (4, .int (oI (fst (riN σ f0) 0))), (5, .int (oI (bst (riN σ f0) (wiA σ) 0))), (0, .ref (ad 0)), (1, .int (nI (f0))), (2, .int (nI (w0)))] := lv_sub hl [0, 3, 2, 1, 4, 5, 6] rfl
      exact lp (2 ^ s_n σ - 0) 0 ls (by omega)  hl
    · refine lv_bipush (v := -3) hx hb dX11_loads_20 (by decide) ?_
      exact rt_i hx hb hr hlocks (by rw [a_loads, c5, ix4 c17]; rfl) dX11_loads_22
  · refine lv_bipush (v := -2) hx hb dX11_loads_8 (by decide) ?_
    exact rt_i hx hb hr hlocks (by rw [a_loads, c5]; rfl) dX11_loads_10
theorem okP_of {n : Int32} (h : okP n = true) : ∃ k, 1 ≤ k ∧ k ≤ 999 ∧ n = nI k := by
  unfold okP at h
  rw [decide_eq_true_iff, Int32.le_iff_toInt_le, Int32.le_iff_toInt_le] at h
  have h1 : (nI 1).toInt = 1 := rfl
  have h8 : (nI 999).toInt = 999 := rfl
  refine ⟨n.toInt.toNat, by omega, by omega, ?_⟩
  apply Int32.toInt_inj.mp
  rw [nI_toInt (by omega)]
  omega
theorem okW_of {n : Int32} (h : okW n = true) : ∃ k, 1 ≤ k ∧ k ≤ 99 ∧ n = nI k := by
  unfold okW at h
  rw [decide_eq_true_iff, Int32.le_iff_toInt_le, Int32.le_iff_toInt_le] at h
  have h1 : (nI 1).toInt = 1 := rfl
  have h8 : (nI 99).toInt = 99 := rfl
  refine ⟨n.toInt.toNat, by omega, by omega, ?_⟩
  apply Int32.toInt_inj.mp
  rw [nI_toInt (by omega)]
  omega
theorem weP_t {σ : Sg} {bk : Bool} {p x : Nat} (h : 1 ≤ x) (c : onB bk x (s_ov σ) = true) (d : pdA σ x (s_of σ) = p) : weP σ bk p x = true := by rw [weP, c, decide_eq_true d, decide_eq_true h]; rfl
theorem weP_f1 {σ : Sg} {bk : Bool} {p x : Nat} (c : onB bk x (s_ov σ) = false) : weP σ bk p x = false := by rw [weP, c, Bool.and_false]; rfl
theorem weP_f2 {σ : Sg} {bk : Bool} {p x : Nat} (d : ¬ pdA σ x (s_of σ) = p) : weP σ bk p x = false := by rw [weP, decide_eq_false d, Bool.and_false]
theorem on_1 {x o : Nat} (h1 : x < 2 ^ 31) (h : x &&& (o ^^^ (2 ^ 32 - 1)) = 0) : onB true x o = true := by rw [onB]; simp [(and_not_0 h1).mp h]
theorem on_2 {x o : Nat} (h1 : x < 2 ^ 31) (h : 0 < x &&& (o ^^^ (2 ^ 32 - 1))) : onB true x o = false := by
  rw [onB]
  have : ¬ x &&& o = x := fun q => by rw [(and_not_0 h1).mpr q] at h; exact absurd h (by decide)
  simp [this]
theorem on_3 {x o : Nat} (h : x &&& o = 0) : onB false x o = true := by rw [onB]; simp [h]
theorem on_4 {x o : Nat} (h : 0 < x &&& o) : onB false x o = false := by
  rw [onB]
  have : ¬ x &&& o = 0 := by omega
  simp [this]
set_option maxHeartbeats 4000000 in
set_option maxRecDepth 100000 in
theorem k_X11_isOver (l : Launch)  (o x b : Nat) (h0 : o < 2 ^ 31) (h1 : x < 2 ^ 31) (h2 : b < 2 ^ 31) : MS l yX11_isOver qX11_isOver 0 [.int (nI (o)), .int (nI (x)), .int (nI (b))] (bI (onB (decide (b = 1)) x o)) := by
  refine Met.ofW (cc := cX11_isOver) (maxL := 3) (ret := (some .boolean)) (by decide) rfl ?_
  intro p e s m args below meth c s₁ B hml hv
  obtain ⟨rfl, -⟩ := hv
  have hx := B.exec
  have hb := B.bytes
  have hr := B.returns
  have hlocks := B.notSynchronized
  have hts : ∀ cq ∈ tg, cq.before ([.int (nI (o)), .int (nI (x)), .int (nI (b))] : List Value).toArray s = true := fun cq h => atoms_spec (ws := qX11_isOver) B.pre cq (List.mem_cons_of_mem _ h)
  have hown : s.vm.findClass RX11 = some m.cls := findClass_of_methodNamed B.named
  have hl := lv_entry ([.int (nI (o)), .int (nI (x)), .int (nI (b))]) (n := 3) (Nat.le_of_ble_eq_true rfl)
  rw [lg_entry_eq]
  generalize (lg_sl ([.int (nI (o)), .int (nI (x)), .int (nI (b))]) ++ List.replicate (3 - (lg_sl ([.int (nI (o)), .int (nI (x)), .int (nI (b))])).length) Slot.unset).toArray = ls at hl ⊢
  have hl : lv_has ls 3 [(0, .int (nI (o))), (1, .int (nI (x))), (2, .int (nI (b)))] := hl
  refine lv_iload_n hx hb dX11_isOver_0 rfl (lv_at hl 2 rfl) ?_
  refine lv_iconst (v := nI 1) hx hb dX11_isOver_1 (by decide) ?_
  refine ln_icmp_ne (tgt := 21) hx hb dX11_isOver_2 (by decide) (by omega) (by omega) (fun c2 => ?_) (fun c2 => ?_)
  · refine lv_iload_n hx hb dX11_isOver_21 rfl (lv_at hl 1 rfl) ?_
    refine lv_iload_n hx hb dX11_isOver_22 rfl (lv_at hl 0 rfl) ?_
    refine ln_iand hx hb dX11_isOver_23 ?_
    refine ln_if_ne (tgt := 31) hx hb dX11_isOver_24 (by decide) (and_lt h1) (fun c24 => ?_) (fun c24 => ?_)
    · refine lv_iconst (v := nI 0) hx hb dX11_isOver_31 (by decide) ?_
      refine ln_eq bI_f.symm ?_
      exact rt_z hx hb hr hlocks (by first | (rw [decide_eq_true c2]; exact (on_1 h1 c10).symm) | (rw [decide_eq_true c2]; exact (on_2 h1 c10).symm) | (rw [decide_eq_false c2]; exact (on_3 c24).symm) | (rw [decide_eq_false c2]; exact (on_4 c24).symm)) dX11_isOver_32
    · refine lv_iconst (v := nI 1) hx hb dX11_isOver_27 (by decide) ?_
      refine lv_goto (tgt := 32) hx hb dX11_isOver_28 (by decide) ?_
      refine ln_eq bI_t.symm ?_
      exact rt_z hx hb hr hlocks (by first | (rw [decide_eq_true c2]; exact (on_1 h1 c10).symm) | (rw [decide_eq_true c2]; exact (on_2 h1 c10).symm) | (rw [decide_eq_false c2]; exact (on_3 c24).symm) | (rw [decide_eq_false c2]; exact (on_4 c24).symm)) dX11_isOver_32
  · refine lv_iload_n hx hb dX11_isOver_5 rfl (lv_at hl 1 rfl) ?_
    refine lv_iload_n hx hb dX11_isOver_6 rfl (lv_at hl 0 rfl) ?_
    refine lv_iconst (v := -1) hx hb dX11_isOver_7 (by decide) ?_
    refine lv_ixor hx hb dX11_isOver_8 ?_
    refine ln_eq (show ((nI (o)) ^^^ (-1)) = (nI (o ^^^ (2 ^ 32 - 1))) from xorm1 o h0) ?_
    refine ln_iand hx hb dX11_isOver_9 ?_
    refine ln_if_ne (tgt := 17) hx hb dX11_isOver_10 (by decide) (and_lt h1) (fun c10 => ?_) (fun c10 => ?_)
    · refine lv_iconst (v := nI 0) hx hb dX11_isOver_17 (by decide) ?_
      refine lv_goto (tgt := 32) hx hb dX11_isOver_18 (by decide) ?_
      refine ln_eq bI_f.symm ?_
      exact rt_z hx hb hr hlocks (by first | (rw [decide_eq_true c2]; exact (on_1 h1 c10).symm) | (rw [decide_eq_true c2]; exact (on_2 h1 c10).symm) | (rw [decide_eq_false c2]; exact (on_3 c24).symm) | (rw [decide_eq_false c2]; exact (on_4 c24).symm)) dX11_isOver_32
    · refine lv_iconst (v := nI 1) hx hb dX11_isOver_13 (by decide) ?_
      refine lv_goto (tgt := 32) hx hb dX11_isOver_14 (by decide) ?_
      refine ln_eq bI_t.symm ?_
      exact rt_z hx hb hr hlocks (by first | (rw [decide_eq_true c2]; exact (on_1 h1 c10).symm) | (rw [decide_eq_true c2]; exact (on_2 h1 c10).symm) | (rw [decide_eq_false c2]; exact (on_3 c24).symm) | (rw [decide_eq_false c2]; exact (on_4 c24).symm)) dX11_isOver_32
set_option maxHeartbeats 4000000 in
set_option maxRecDepth 100000 in
theorem k_X11_weighed (l : Launch) (D : va_G) (cy : Nat → ClassId) (ad : Nat → Nat) (σ : Sg) (T : Ms) (bk pn : Int32) (hw : wfS σ) : MR l yX11_weighed qX11_weighed 3 [.ref (ad 0), .int (bk), .int (pn)] D cy (mw cy ad σ T) (a_weighed σ bk pn) := by
  refine Met.ofW (cc := cX11_weighed) (maxL := 6) (ret := (some .int)) (by decide) rfl ?_
  intro p e s m args below meth c s₁ B hml hv
  obtain ⟨rfl, hP, hK, hN⟩ := hv
  have hx := B.exec
  have hb := B.bytes
  have hr := B.returns
  have hlocks := B.notSynchronized
  have hts : ∀ cq ∈ tg, cq.before ([.ref (ad 0), .int (bk), .int (pn)] : List Value).toArray s = true := fun cq h => atoms_spec (ws := qX11_weighed) B.pre cq (List.mem_cons_of_mem _ h)
  have hown : s.vm.findClass RX11 = some m.cls := findClass_of_methodNamed B.named
  have hl := lv_entry ([.ref (ad 0), .int (bk), .int (pn)]) (n := 6) (Nat.le_of_ble_eq_true rfl)
  rw [lg_entry_eq]
  generalize (lg_sl ([.ref (ad 0), .int (bk), .int (pn)]) ++ List.replicate (6 - (lg_sl ([.ref (ad 0), .int (bk), .int (pn)])).length) Slot.unset).toArray = ls at hl ⊢
  have hl : lv_has ls 6 [(0, .ref (ad 0)), (1, .int (bk)), (2, .int (pn))] := hl
  have hw1 := hw.1
  have hw2 := hw.2.1
  have hp8 := pw_8 hw1
  have hov := ov_lt hw
  have hmo := mo_lt hw
  have hof := of_lt hw
  have hpp := pw_pos (s_n σ)
  refine lv_iload_n hx hb dX11_weighed_0 rfl (lv_at hl 1 rfl) ?_
  refine cr_s (n := 1) (As := [.int (bk)]) (rest := []) ⟨hx, hb, hml, hown, hts⟩ (k_X11_isBank l (bk)) gsX11_214 (by decide +kernel) ⟨Nat.le_of_ble_eq_true rfl, Nat.le_of_ble_eq_true rfl⟩ rfl hl.1 rfl (Nat.le_of_ble_eq_true rfl) dX11_weighed_1 ⟨Nat.zero_le _, Nat.zero_le _⟩ ?_
  refine lb_if_ne (tgt := 10) hx hb dX11_weighed_4 (by decide) (fun c4 => ?_) (fun c4 => ?_)
  · obtain ⟨b0, hb0, rfl⟩ := ix_of c4 (by omega)
    have hl : lv_has ls 6 [(0, .ref (ad 0)), (1, .int (nI (b0))), (2, .int (pn))] := hl
    refine lv_iload_n hx hb dX11_weighed_10 rfl (lv_at hl 2 rfl) ?_
    refine lv_iconst (v := nI 1) hx hb dX11_weighed_11 (by decide) ?_
    refine lv_sipush (v := nI 999) hx hb dX11_weighed_12 (by decide) ?_
    refine cr_s (n := 3) (As := [.int (pn), .int (nI (1)), .int (nI (999))]) (rest := []) ⟨hx, hb, hml, hown, hts⟩ (k_X11_in l (pn) (nI (1)) (nI (999))) gsX11_51 (by decide +kernel) ⟨Nat.le_of_ble_eq_true rfl, Nat.le_of_ble_eq_true rfl⟩ rfl hl.1 rfl (Nat.le_of_ble_eq_true rfl) dX11_weighed_15 ⟨Nat.zero_le _, Nat.zero_le _⟩ ?_
    refine lb_if_ne (tgt := 24) hx hb dX11_weighed_18 (by decide) (fun c18 => ?_) (fun c18 => ?_)
    · obtain ⟨p0, hp1, hp2, rfl⟩ := okP_of c18
      have hl : lv_has ls 6 [(0, .ref (ad 0)), (1, .int (nI (b0))), (2, .int (nI (p0)))] := hl
      refine lv_iconst (v := nI 0) hx hb dX11_weighed_24 (by decide) ?_
      refine lv_istore_n (lv' := [(3, .int (nI (0))), (0, .ref (ad 0)), (1, .int (nI (b0))), (2, .int (nI (p0)))]) hx hb dX11_weighed_25 rfl hl (by decide) rfl (fun ls hl => ?_)
      refine lv_iconst (v := nI 1) hx hb dX11_weighed_26 (by decide) ?_
      refine lv_istore (lv' := [(4, .int (nI (1))), (3, .int (nI (0))), (0, .ref (ad 0)), (1, .int (nI (b0))), (2, .int (nI (p0)))]) hx hb dX11_weighed_27 hl (by decide) rfl (fun ls hl => ?_)
      have lp : ∀ (k_lp i : Nat) (ls : Array Slot)  , i + k_lp = 2 ^ s_n σ → 1 ≤ i → lv_has ls 6 [(4, .int (nI (i))), (3, .int (nI (cntN (weP σ (decide (b0 = 1)) p0) i))), (0, .ref (ad 0)), (1, .int (nI (b0))), (2, .int (nI (p0)))] → W p l e (headSpec qX11_weighed (rq 3)).room s m ([.ref (ad 0), .int (nI (b0)), .int (nI (p0))] : List Value).toArray below meth c s.heap [] 0 0 (MQ below (vp_Si (fun r => r = a_weighed σ (nI b0) (nI p0))) ([.ref (ad 0), .int (nI (b0)), .int (nI (p0))] : List Value).toArray s 0 0 (fun _ => False)) (F0 m 29 ls []) := by
        intro k_lp
        induction k_lp with
        | zero =>
          intro i ls hi_lp h1i hl
          refine lv_iload hx hb dX11_weighed_29 (lv_at hl 0 rfl) ?_
          refine lv_iconst (v := nI 1) hx hb dX11_weighed_31 (by decide) ?_
          refine lv_aload_n hx hb dX11_weighed_32 rfl (lv_at hl 2 rfl) ?_
          refine va_get (D := D) (ci := 10) (v := .int (nI (s_n σ))) (C := RX11) (T := TX11) (N := 31) hx hb hts ni11 hown hK hP 0 (mw_c0 cy ad σ T) rfl 0 (by decide) (hts _ flX11_47) (fun _ h => h) rfl dX11_weighed_33 ?_
          refine ln_ishl hx hb dX11_weighed_36 (by omega) (by omega) ?_
          refine ln_icmp_ge (tgt := 115) hx hb dX11_weighed_37 (by decide) (by omega) (by omega) (fun c37 => ?_) (fun c37 => ?_)
          · refine lv_iload_n hx hb dX11_weighed_115 rfl (lv_at hl 1 rfl) ?_
            exact rt_i hx hb hr hlocks (by rw [a_weighed, c4, show okP (nI p0) = true from c18, tk_nI (k := b0) (by omega), tk_nI (k := p0) (by omega), show 2 ^ s_n σ = i by omega]; rfl) dX11_weighed_116
          · exact absurd c37 (by omega)
        | succ k_lp ih_lp =>
          intro i ls hi_lp h1i hl
          refine lv_iload hx hb dX11_weighed_29 (lv_at hl 0 rfl) ?_
          refine lv_iconst (v := nI 1) hx hb dX11_weighed_31 (by decide) ?_
          refine lv_aload_n hx hb dX11_weighed_32 rfl (lv_at hl 2 rfl) ?_
          refine va_get (D := D) (ci := 10) (v := .int (nI (s_n σ))) (C := RX11) (T := TX11) (N := 31) hx hb hts ni11 hown hK hP 0 (mw_c0 cy ad σ T) rfl 0 (by decide) (hts _ flX11_47) (fun _ h => h) rfl dX11_weighed_33 ?_
          refine ln_ishl hx hb dX11_weighed_36 (by omega) (by omega) ?_
          refine ln_icmp_ge (tgt := 115) hx hb dX11_weighed_37 (by decide) (by omega) (by omega) (fun c37 => ?_) (fun c37 => ?_)
          · exact absurd c37 (by omega)
          · refine lv_iload_n hx hb dX11_weighed_40 rfl (lv_at hl 3 rfl) ?_
            refine lv_iconst (v := nI 1) hx hb dX11_weighed_41 (by decide) ?_
            refine ln_icmp_ne (tgt := 65) hx hb dX11_weighed_42 (by decide) (by omega) (by omega) (fun c42 => ?_) (fun c42 => ?_)
            · refine lv_iload hx hb dX11_weighed_65 (lv_at hl 0 rfl) ?_
              refine lv_aload_n hx hb dX11_weighed_67 rfl (lv_at hl 2 rfl) ?_
              refine va_get (D := D) (ci := 10) (v := .int (nI (s_ov σ))) (C := RX11) (T := TX11) (N := 31) hx hb hts ni11 hown hK hP 0 (mw_c0 cy ad σ T) rfl 17 (by decide) (hts _ flX11_155) (fun _ h => h) rfl dX11_weighed_68 ?_
              refine ln_iand hx hb dX11_weighed_71 ?_
              refine ln_if_ne (tgt := 79) hx hb dX11_weighed_72 (by decide) (and_lt (by omega)) (fun c72 => ?_) (fun c72 => ?_)
              · refine lv_iconst (v := nI 0) hx hb dX11_weighed_79 (by decide) ?_
                refine ln_eq (show (nI (0)) = (bI (onB (decide (b0 = 1)) i (s_ov σ))) from by first | (rw [decide_eq_true c42, on_1 (by omega) c54]; rfl) | (rw [decide_eq_true c42, on_2 (by omega) c54]; rfl) | (rw [decide_eq_false c42, on_3 c72]; rfl) | (rw [decide_eq_false c42, on_4 c72]; rfl)) ?_
                refine lv_istore (lv' := [(5, .int (bI (onB (decide (b0 = 1)) i (s_ov σ)))), (4, .int (nI (i))), (3, .int (nI (cntN (weP σ (decide (b0 = 1)) p0) i))), (0, .ref (ad 0)), (1, .int (nI (b0))), (2, .int (nI (p0)))]) hx hb dX11_weighed_80 hl (by decide) rfl (fun ls hl => ?_)
                refine lv_iload_n hx hb dX11_weighed_82 rfl (lv_at hl 2 rfl) ?_
                refine lv_iload hx hb dX11_weighed_83 (lv_at hl 0 rfl) ?_
                refine lb_if_eq (tgt := 106) hx hb dX11_weighed_85 (by decide) (fun c85 => ?_) (fun c85 => ?_)
                · refine lv_iconst (v := nI 0) hx hb dX11_weighed_106 (by decide) ?_
                  refine ln_iadd hx hb dX11_weighed_107 ?_
                  refine ln_nat (show (cntN (weP σ (decide (b0 = 1)) p0) i) + 0 = cntN (weP σ (decide (b0 = 1)) p0) (i + 1) from by first | exact cntN_f (weP_f1 c85) | exact cntN_t (weP_t (by omega) c85 c99) | exact cntN_f (weP_f2 c99)) ?_
                  refine lv_istore_n (lv' := [(3, .int (nI (cntN (weP σ (decide (b0 = 1)) p0) (i + 1)))), (5, .int (bI (onB (decide (b0 = 1)) i (s_ov σ)))), (4, .int (nI (i))), (0, .ref (ad 0)), (1, .int (nI (b0))), (2, .int (nI (p0)))]) hx hb dX11_weighed_108 rfl hl (by decide) rfl (fun ls hl => ?_)
                  refine ln_iinc (lv' := [(4, .int (nI (i + 1))), (3, .int (nI (cntN (weP σ (decide (b0 = 1)) p0) (i + 1)))), (5, .int (bI (onB (decide (b0 = 1)) i (s_ov σ)))), (0, .ref (ad 0)), (1, .int (nI (b0))), (2, .int (nI (p0)))]) hx hb dX11_weighed_109 hl (k := 2) (n := 1) rfl (by decide) rfl (fun ls hl => ?_)
                  refine lv_goto (tgt := 29) hx hb dX11_weighed_112 (by decide) ?_
                  have hl : lv_has ls 6 [(4, .int (nI (i + 1))), (3, .int (nI (cntN (weP σ (decide (b0 = 1)) p0) (i + 1)))), (0, .ref (ad 0)), (1, .int (nI (b0))), (2, .int (nI (p0)))] := lv_sub hl [0, 1, 3, 4, 5] rfl
                  exact ih_lp (i + 1) ls (by omega) (by omega)  hl
                · have hpd := pdA_le hw i (s_of σ)
                  refine lv_aload_n hx hb dX11_weighed_88 rfl (lv_at hl 3 rfl) ?_
                  refine lv_iload hx hb dX11_weighed_89 (lv_at hl 1 rfl) ?_
                  refine lv_aload_n hx hb dX11_weighed_91 rfl (lv_at hl 3 rfl) ?_
                  refine va_get (D := D) (ci := 10) (v := .int (nI (s_of σ))) (C := RX11) (T := TX11) (N := 31) hx hb hts ni11 hown hK hP 0 (mw_c0 cy ad σ T) rfl 19 (by decide) (hts _ flX11_161) (fun _ h => h) rfl dX11_weighed_92 ?_
                  refine cr_v (n := 2) (As := [.int (nI (i)), .int (nI (s_of σ))]) (rest := [.int (nI (cntN (weP σ (decide (b0 = 1)) p0) i))]) ⟨hx, hb, hml, hown, hts⟩ (k_X11_poundsOfAll l D cy ad σ T i (s_of σ) hw (by omega) (by omega)) gvX11_198 (by decide +kernel) ⟨Nat.le_of_ble_eq_true rfl, Nat.le_of_ble_eq_true rfl⟩ hK hN hP 0 (mw_c0 cy ad σ T) rfl rfl hl.1 rfl (Nat.le_of_ble_eq_true rfl) dX11_weighed_95 ⟨Nat.zero_le _, Nat.zero_le _⟩ ?_
                  refine lv_iload_n hx hb dX11_weighed_98 rfl (lv_at hl 5 rfl) ?_
                  refine ln_icmp_ne (tgt := 106) hx hb dX11_weighed_99 (by decide) (by omega) (by omega) (fun c99 => ?_) (fun c99 => ?_)
                  · refine lv_iconst (v := nI 0) hx hb dX11_weighed_106 (by decide) ?_
                    refine ln_iadd hx hb dX11_weighed_107 ?_
                    refine ln_nat (show (cntN (weP σ (decide (b0 = 1)) p0) i) + 0 = cntN (weP σ (decide (b0 = 1)) p0) (i + 1) from by first | exact cntN_f (weP_f1 c85) | exact cntN_t (weP_t (by omega) c85 c99) | exact cntN_f (weP_f2 c99)) ?_
                    refine lv_istore_n (lv' := [(3, .int (nI (cntN (weP σ (decide (b0 = 1)) p0) (i + 1)))), (5, .int (bI (onB (decide (b0 = 1)) i (s_ov σ)))), (4, .int (nI (i))), (0, .ref (ad 0)), (1, .int (nI (b0))), (2, .int (nI (p0)))]) hx hb dX11_weighed_108 rfl hl (by decide) rfl (fun ls hl => ?_)
                    refine ln_iinc (lv' := [(4, .int (nI (i + 1))), (3, .int (nI (cntN (weP σ (decide (b0 = 1)) p0) (i + 1)))), (5, .int (bI (onB (decide (b0 = 1)) i (s_ov σ)))), (0, .ref (ad 0)), (1, .int (nI (b0))), (2, .int (nI (p0)))]) hx hb dX11_weighed_109 hl (k := 2) (n := 1) rfl (by decide) rfl (fun ls hl => ?_)
                    refine lv_goto (tgt := 29) hx hb dX11_weighed_112 (by decide) ?_
                    have hl : lv_has ls 6 [(4, .int (nI (i + 1))), (3, .int (nI (cntN (weP σ (decide (b0 = 1)) p0) (i + 1)))), (0, .ref (ad 0)), (1, .int (nI (b0))), (2, .int (nI (p0)))] := lv_sub hl [0, 1, 3, 4, 5] rfl
                    exact ih_lp (i + 1) ls (by omega) (by omega)  hl
                  · refine lv_iconst (v := nI 1) hx hb dX11_weighed_102 (by decide) ?_
                    refine lv_goto (tgt := 107) hx hb dX11_weighed_103 (by decide) ?_
                    refine ln_iadd hx hb dX11_weighed_107 ?_
                    refine ln_nat (show (cntN (weP σ (decide (b0 = 1)) p0) i) + 1 = cntN (weP σ (decide (b0 = 1)) p0) (i + 1) from by first | exact cntN_f (weP_f1 c85) | exact cntN_t (weP_t (by omega) c85 c99) | exact cntN_f (weP_f2 c99)) ?_
                    refine lv_istore_n (lv' := [(3, .int (nI (cntN (weP σ (decide (b0 = 1)) p0) (i + 1)))), (5, .int (bI (onB (decide (b0 = 1)) i (s_ov σ)))), (4, .int (nI (i))), (0, .ref (ad 0)), (1, .int (nI (b0))), (2, .int (nI (p0)))]) hx hb dX11_weighed_108 rfl hl (by decide) rfl (fun ls hl => ?_)
                    refine ln_iinc (lv' := [(4, .int (nI (i + 1))), (3, .int (nI (cntN (weP σ (decide (b0 = 1)) p0) (i + 1)))), (5, .int (bI (onB (decide (b0 = 1)) i (s_ov σ)))), (0, .ref (ad 0)), (1, .int (nI (b0))), (2, .int (nI (p0)))]) hx hb dX11_weighed_109 hl (k := 2) (n := 1) rfl (by decide) rfl (fun ls hl => ?_)
                    refine lv_goto (tgt := 29) hx hb dX11_weighed_112 (by decide) ?_
                    have hl : lv_has ls 6 [(4, .int (nI (i + 1))), (3, .int (nI (cntN (weP σ (decide (b0 = 1)) p0) (i + 1)))), (0, .ref (ad 0)), (1, .int (nI (b0))), (2, .int (nI (p0)))] := lv_sub hl [0, 1, 3, 4, 5] rfl
                    exact ih_lp (i + 1) ls (by omega) (by omega)  hl
              · refine lv_iconst (v := nI 1) hx hb dX11_weighed_75 (by decide) ?_
                refine lv_goto (tgt := 80) hx hb dX11_weighed_76 (by decide) ?_
                refine ln_eq (show (nI (1)) = (bI (onB (decide (b0 = 1)) i (s_ov σ))) from by first | (rw [decide_eq_true c42, on_1 (by omega) c54]; rfl) | (rw [decide_eq_true c42, on_2 (by omega) c54]; rfl) | (rw [decide_eq_false c42, on_3 c72]; rfl) | (rw [decide_eq_false c42, on_4 c72]; rfl)) ?_
                refine lv_istore (lv' := [(5, .int (bI (onB (decide (b0 = 1)) i (s_ov σ)))), (4, .int (nI (i))), (3, .int (nI (cntN (weP σ (decide (b0 = 1)) p0) i))), (0, .ref (ad 0)), (1, .int (nI (b0))), (2, .int (nI (p0)))]) hx hb dX11_weighed_80 hl (by decide) rfl (fun ls hl => ?_)
                refine lv_iload_n hx hb dX11_weighed_82 rfl (lv_at hl 2 rfl) ?_
                refine lv_iload hx hb dX11_weighed_83 (lv_at hl 0 rfl) ?_
                refine lb_if_eq (tgt := 106) hx hb dX11_weighed_85 (by decide) (fun c85 => ?_) (fun c85 => ?_)
                · refine lv_iconst (v := nI 0) hx hb dX11_weighed_106 (by decide) ?_
                  refine ln_iadd hx hb dX11_weighed_107 ?_
                  refine ln_nat (show (cntN (weP σ (decide (b0 = 1)) p0) i) + 0 = cntN (weP σ (decide (b0 = 1)) p0) (i + 1) from by first | exact cntN_f (weP_f1 c85) | exact cntN_t (weP_t (by omega) c85 c99) | exact cntN_f (weP_f2 c99)) ?_
                  refine lv_istore_n (lv' := [(3, .int (nI (cntN (weP σ (decide (b0 = 1)) p0) (i + 1)))), (5, .int (bI (onB (decide (b0 = 1)) i (s_ov σ)))), (4, .int (nI (i))), (0, .ref (ad 0)), (1, .int (nI (b0))), (2, .int (nI (p0)))]) hx hb dX11_weighed_108 rfl hl (by decide) rfl (fun ls hl => ?_)
                  refine ln_iinc (lv' := [(4, .int (nI (i + 1))), (3, .int (nI (cntN (weP σ (decide (b0 = 1)) p0) (i + 1)))), (5, .int (bI (onB (decide (b0 = 1)) i (s_ov σ)))), (0, .ref (ad 0)), (1, .int (nI (b0))), (2, .int (nI (p0)))]) hx hb dX11_weighed_109 hl (k := 2) (n := 1) rfl (by decide) rfl (fun ls hl => ?_)
                  refine lv_goto (tgt := 29) hx hb dX11_weighed_112 (by decide) ?_
                  have hl : lv_has ls 6 [(4, .int (nI (i + 1))), (3, .int (nI (cntN (weP σ (decide (b0 = 1)) p0) (i + 1)))), (0, .ref (ad 0)), (1, .int (nI (b0))), (2, .int (nI (p0)))] := lv_sub hl [0, 1, 3, 4, 5] rfl
                  exact ih_lp (i + 1) ls (by omega) (by omega)  hl
                · have hpd := pdA_le hw i (s_of σ)
                  refine lv_aload_n hx hb dX11_weighed_88 rfl (lv_at hl 3 rfl) ?_
                  refine lv_iload hx hb dX11_weighed_89 (lv_at hl 1 rfl) ?_
                  refine lv_aload_n hx hb dX11_weighed_91 rfl (lv_at hl 3 rfl) ?_
                  refine va_get (D := D) (ci := 10) (v := .int (nI (s_of σ))) (C := RX11) (T := TX11) (N := 31) hx hb hts ni11 hown hK hP 0 (mw_c0 cy ad σ T) rfl 19 (by decide) (hts _ flX11_161) (fun _ h => h) rfl dX11_weighed_92 ?_
                  refine cr_v (n := 2) (As := [.int (nI (i)), .int (nI (s_of σ))]) (rest := [.int (nI (cntN (weP σ (decide (b0 = 1)) p0) i))]) ⟨hx, hb, hml, hown, hts⟩ (k_X11_poundsOfAll l D cy ad σ T i (s_of σ) hw (by omega) (by omega)) gvX11_198 (by decide +kernel) ⟨Nat.le_of_ble_eq_true rfl, Nat.le_of_ble_eq_true rfl⟩ hK hN hP 0 (mw_c0 cy ad σ T) rfl rfl hl.1 rfl (Nat.le_of_ble_eq_true rfl) dX11_weighed_95 ⟨Nat.zero_le _, Nat.zero_le _⟩ ?_
                  refine lv_iload_n hx hb dX11_weighed_98 rfl (lv_at hl 5 rfl) ?_
                  refine ln_icmp_ne (tgt := 106) hx hb dX11_weighed_99 (by decide) (by omega) (by omega) (fun c99 => ?_) (fun c99 => ?_)
                  · refine lv_iconst (v := nI 0) hx hb dX11_weighed_106 (by decide) ?_
                    refine ln_iadd hx hb dX11_weighed_107 ?_
                    refine ln_nat (show (cntN (weP σ (decide (b0 = 1)) p0) i) + 0 = cntN (weP σ (decide (b0 = 1)) p0) (i + 1) from by first | exact cntN_f (weP_f1 c85) | exact cntN_t (weP_t (by omega) c85 c99) | exact cntN_f (weP_f2 c99)) ?_
                    refine lv_istore_n (lv' := [(3, .int (nI (cntN (weP σ (decide (b0 = 1)) p0) (i + 1)))), (5, .int (bI (onB (decide (b0 = 1)) i (s_ov σ)))), (4, .int (nI (i))), (0, .ref (ad 0)), (1, .int (nI (b0))), (2, .int (nI (p0)))]) hx hb dX11_weighed_108 rfl hl (by decide) rfl (fun ls hl => ?_)
                    refine ln_iinc (lv' := [(4, .int (nI (i + 1))), (3, .int (nI (cntN (weP σ (decide (b0 = 1)) p0) (i + 1)))), (5, .int (bI (onB (decide (b0 = 1)) i (s_ov σ)))), (0, .ref (ad 0)), (1, .int (nI (b0))), (2, .int (nI (p0)))]) hx hb dX11_weighed_109 hl (k := 2) (n := 1) rfl (by decide) rfl (fun ls hl => ?_)
                    refine lv_goto (tgt := 29) hx hb dX11_weighed_112 (by decide) ?_
                    have hl : lv_has ls 6 [(4, .int (nI (i + 1))), (3, .int (nI (cntN (weP σ (decide (b0 = 1)) p0) (i + 1)))), (0, .ref (ad 0)), (1, .int (nI (b0))), (2, .int (nI (p0)))] := lv_sub hl [0, 1, 3, 4, 5] rfl
                    exact ih_lp (i + 1) ls (by omega) (by omega)  hl
                  · refine lv_iconst (v := nI 1) hx hb dX11_weighed_102 (by decide) ?_
                    refine lv_goto (tgt := 107) hx hb dX11_weighed_103 (by decide) ?_
                    refine ln_iadd hx hb dX11_weighed_107 ?_
                    refine ln_nat (show (cntN (weP σ (decide (b0 = 1)) p0) i) + 1 = cntN (weP σ (decide (b0 = 1)) p0) (i + 1) from by first | exact cntN_f (weP_f1 c85) | exact cntN_t (weP_t (by omega) c85 c99) | exact cntN_f (weP_f2 c99)) ?_
                    refine lv_istore_n (lv' := [(3, .int (nI (cntN (weP σ (decide (b0 = 1)) p0) (i + 1)))), (5, .int (bI (onB (decide (b0 = 1)) i (s_ov σ)))), (4, .int (nI (i))), (0, .ref (ad 0)), (1, .int (nI (b0))), (2, .int (nI (p0)))]) hx hb dX11_weighed_108 rfl hl (by decide) rfl (fun ls hl => ?_)
                    refine ln_iinc (lv' := [(4, .int (nI (i + 1))), (3, .int (nI (cntN (weP σ (decide (b0 = 1)) p0) (i + 1)))), (5, .int (bI (onB (decide (b0 = 1)) i (s_ov σ)))), (0, .ref (ad 0)), (1, .int (nI (b0))), (2, .int (nI (p0)))]) hx hb dX11_weighed_109 hl (k := 2) (n := 1) rfl (by decide) rfl (fun ls hl => ?_)
                    refine lv_goto (tgt := 29) hx hb dX11_weighed_112 (by decide) ?_
                    have hl : lv_has ls 6 [(4, .int (nI (i + 1))), (3, .int (nI (cntN (weP σ (decide (b0 = 1)) p0) (i + 1)))), (0, .ref (ad 0)), (1, .int (nI (b0))), (2, .int (nI (p0)))] := lv_sub hl [0, 1, 3, 4, 5] rfl
                    exact ih_lp (i + 1) ls (by omega) (by omega)  hl
            · refine lv_iload hx hb dX11_weighed_45 (lv_at hl 0 rfl) ?_
              refine lv_aload_n hx hb dX11_weighed_47 rfl (lv_at hl 2 rfl) ?_
              refine va_get (D := D) (ci := 10) (v := .int (nI (s_ov σ))) (C := RX11) (T := TX11) (N := 31) hx hb hts ni11 hown hK hP 0 (mw_c0 cy ad σ T) rfl 17 (by decide) (hts _ flX11_155) (fun _ h => h) rfl dX11_weighed_48 ?_
              refine lv_iconst (v := -1) hx hb dX11_weighed_51 (by decide) ?_
              refine lv_ixor hx hb dX11_weighed_52 ?_
              refine ln_eq (show ((nI (s_ov σ)) ^^^ (-1)) = (nI (s_ov σ ^^^ (2 ^ 32 - 1))) from xorm1 _ (by omega)) ?_
              refine ln_iand hx hb dX11_weighed_53 ?_
              refine ln_if_ne (tgt := 61) hx hb dX11_weighed_54 (by decide) (and_lt (by omega)) (fun c54 => ?_) (fun c54 => ?_)
              · refine lv_iconst (v := nI 0) hx hb dX11_weighed_61 (by decide) ?_
                refine lv_goto (tgt := 80) hx hb dX11_weighed_62 (by decide) ?_
                refine ln_eq (show (nI (0)) = (bI (onB (decide (b0 = 1)) i (s_ov σ))) from by first | (rw [decide_eq_true c42, on_1 (by omega) c54]; rfl) | (rw [decide_eq_true c42, on_2 (by omega) c54]; rfl) | (rw [decide_eq_false c42, on_3 c72]; rfl) | (rw [decide_eq_false c42, on_4 c72]; rfl)) ?_
                refine lv_istore (lv' := [(5, .int (bI (onB (decide (b0 = 1)) i (s_ov σ)))), (4, .int (nI (i))), (3, .int (nI (cntN (weP σ (decide (b0 = 1)) p0) i))), (0, .ref (ad 0)), (1, .int (nI (b0))), (2, .int (nI (p0)))]) hx hb dX11_weighed_80 hl (by decide) rfl (fun ls hl => ?_)
                refine lv_iload_n hx hb dX11_weighed_82 rfl (lv_at hl 2 rfl) ?_
                refine lv_iload hx hb dX11_weighed_83 (lv_at hl 0 rfl) ?_
                refine lb_if_eq (tgt := 106) hx hb dX11_weighed_85 (by decide) (fun c85 => ?_) (fun c85 => ?_)
                · refine lv_iconst (v := nI 0) hx hb dX11_weighed_106 (by decide) ?_
                  refine ln_iadd hx hb dX11_weighed_107 ?_
                  refine ln_nat (show (cntN (weP σ (decide (b0 = 1)) p0) i) + 0 = cntN (weP σ (decide (b0 = 1)) p0) (i + 1) from by first | exact cntN_f (weP_f1 c85) | exact cntN_t (weP_t (by omega) c85 c99) | exact cntN_f (weP_f2 c99)) ?_
                  refine lv_istore_n (lv' := [(3, .int (nI (cntN (weP σ (decide (b0 = 1)) p0) (i + 1)))), (5, .int (bI (onB (decide (b0 = 1)) i (s_ov σ)))), (4, .int (nI (i))), (0, .ref (ad 0)), (1, .int (nI (b0))), (2, .int (nI (p0)))]) hx hb dX11_weighed_108 rfl hl (by decide) rfl (fun ls hl => ?_)
                  refine ln_iinc (lv' := [(4, .int (nI (i + 1))), (3, .int (nI (cntN (weP σ (decide (b0 = 1)) p0) (i + 1)))), (5, .int (bI (onB (decide (b0 = 1)) i (s_ov σ)))), (0, .ref (ad 0)), (1, .int (nI (b0))), (2, .int (nI (p0)))]) hx hb dX11_weighed_109 hl (k := 2) (n := 1) rfl (by decide) rfl (fun ls hl => ?_)
                  refine lv_goto (tgt := 29) hx hb dX11_weighed_112 (by decide) ?_
                  have hl : lv_has ls 6 [(4, .int (nI (i + 1))), (3, .int (nI (cntN (weP σ (decide (b0 = 1)) p0) (i + 1)))), (0, .ref (ad 0)), (1, .int (nI (b0))), (2, .int (nI (p0)))] := lv_sub hl [0, 1, 3, 4, 5] rfl
                  exact ih_lp (i + 1) ls (by omega) (by omega)  hl
                · have hpd := pdA_le hw i (s_of σ)
                  refine lv_aload_n hx hb dX11_weighed_88 rfl (lv_at hl 3 rfl) ?_
                  refine lv_iload hx hb dX11_weighed_89 (lv_at hl 1 rfl) ?_
                  refine lv_aload_n hx hb dX11_weighed_91 rfl (lv_at hl 3 rfl) ?_
                  refine va_get (D := D) (ci := 10) (v := .int (nI (s_of σ))) (C := RX11) (T := TX11) (N := 31) hx hb hts ni11 hown hK hP 0 (mw_c0 cy ad σ T) rfl 19 (by decide) (hts _ flX11_161) (fun _ h => h) rfl dX11_weighed_92 ?_
                  refine cr_v (n := 2) (As := [.int (nI (i)), .int (nI (s_of σ))]) (rest := [.int (nI (cntN (weP σ (decide (b0 = 1)) p0) i))]) ⟨hx, hb, hml, hown, hts⟩ (k_X11_poundsOfAll l D cy ad σ T i (s_of σ) hw (by omega) (by omega)) gvX11_198 (by decide +kernel) ⟨Nat.le_of_ble_eq_true rfl, Nat.le_of_ble_eq_true rfl⟩ hK hN hP 0 (mw_c0 cy ad σ T) rfl rfl hl.1 rfl (Nat.le_of_ble_eq_true rfl) dX11_weighed_95 ⟨Nat.zero_le _, Nat.zero_le _⟩ ?_
                  refine lv_iload_n hx hb dX11_weighed_98 rfl (lv_at hl 5 rfl) ?_
                  refine ln_icmp_ne (tgt := 106) hx hb dX11_weighed_99 (by decide) (by omega) (by omega) (fun c99 => ?_) (fun c99 => ?_)
                  · refine lv_iconst (v := nI 0) hx hb dX11_weighed_106 (by decide) ?_
                    refine ln_iadd hx hb dX11_weighed_107 ?_
                    refine ln_nat (show (cntN (weP σ (decide (b0 = 1)) p0) i) + 0 = cntN (weP σ (decide (b0 = 1)) p0) (i + 1) from by first | exact cntN_f (weP_f1 c85) | exact cntN_t (weP_t (by omega) c85 c99) | exact cntN_f (weP_f2 c99)) ?_
                    refine lv_istore_n (lv' := [(3, .int (nI (cntN (weP σ (decide (b0 = 1)) p0) (i + 1)))), (5, .int (bI (onB (decide (b0 = 1)) i (s_ov σ)))), (4, .int (nI (i))), (0, .ref (ad 0)), (1, .int (nI (b0))), (2, .int (nI (p0)))]) hx hb dX11_weighed_108 rfl hl (by decide) rfl (fun ls hl => ?_)
                    refine ln_iinc (lv' := [(4, .int (nI (i + 1))), (3, .int (nI (cntN (weP σ (decide (b0 = 1)) p0) (i + 1)))), (5, .int (bI (onB (decide (b0 = 1)) i (s_ov σ)))), (0, .ref (ad 0)), (1, .int (nI (b0))), (2, .int (nI (p0)))]) hx hb dX11_weighed_109 hl (k := 2) (n := 1) rfl (by decide) rfl (fun ls hl => ?_)
                    refine lv_goto (tgt := 29) hx hb dX11_weighed_112 (by decide) ?_
                    have hl : lv_has ls 6 [(4, .int (nI (i + 1))), (3, .int (nI (cntN (weP σ (decide (b0 = 1)) p0) (i + 1)))), (0, .ref (ad 0)), (1, .int (nI (b0))), (2, .int (nI (p0)))] := lv_sub hl [0, 1, 3, 4, 5] rfl
                    exact ih_lp (i + 1) ls (by omega) (by omega)  hl
                  · refine lv_iconst (v := nI 1) hx hb dX11_weighed_102 (by decide) ?_
                    refine lv_goto (tgt := 107) hx hb dX11_weighed_103 (by decide) ?_
                    refine ln_iadd hx hb dX11_weighed_107 ?_
                    refine ln_nat (show (cntN (weP σ (decide (b0 = 1)) p0) i) + 1 = cntN (weP σ (decide (b0 = 1)) p0) (i + 1) from by first | exact cntN_f (weP_f1 c85) | exact cntN_t (weP_t (by omega) c85 c99) | exact cntN_f (weP_f2 c99)) ?_
                    refine lv_istore_n (lv' := [(3, .int (nI (cntN (weP σ (decide (b0 = 1)) p0) (i + 1)))), (5, .int (bI (onB (decide (b0 = 1)) i (s_ov σ)))), (4, .int (nI (i))), (0, .ref (ad 0)), (1, .int (nI (b0))), (2, .int (nI (p0)))]) hx hb dX11_weighed_108 rfl hl (by decide) rfl (fun ls hl => ?_)
                    refine ln_iinc (lv' := [(4, .int (nI (i + 1))), (3, .int (nI (cntN (weP σ (decide (b0 = 1)) p0) (i + 1)))), (5, .int (bI (onB (decide (b0 = 1)) i (s_ov σ)))), (0, .ref (ad 0)), (1, .int (nI (b0))), (2, .int (nI (p0)))]) hx hb dX11_weighed_109 hl (k := 2) (n := 1) rfl (by decide) rfl (fun ls hl => ?_)
                    refine lv_goto (tgt := 29) hx hb dX11_weighed_112 (by decide) ?_
                    have hl : lv_has ls 6 [(4, .int (nI (i + 1))), (3, .int (nI (cntN (weP σ (decide (b0 = 1)) p0) (i + 1)))), (0, .ref (ad 0)), (1, .int (nI (b0))), (2, .int (nI (p0)))] := lv_sub hl [0, 1, 3, 4, 5] rfl
                    exact ih_lp (i + 1) ls (by omega) (by omega)  hl
              · refine lv_iconst (v := nI 1) hx hb dX11_weighed_57 (by decide) ?_
                refine lv_goto (tgt := 80) hx hb dX11_weighed_58 (by decide) ?_
                refine ln_eq (show (nI (1)) = (bI (onB (decide (b0 = 1)) i (s_ov σ))) from by first | (rw [decide_eq_true c42, on_1 (by omega) c54]; rfl) | (rw [decide_eq_true c42, on_2 (by omega) c54]; rfl) | (rw [decide_eq_false c42, on_3 c72]; rfl) | (rw [decide_eq_false c42, on_4 c72]; rfl)) ?_
                refine lv_istore (lv' := [(5, .int (bI (onB (decide (b0 = 1)) i (s_ov σ)))), (4, .int (nI (i))), (3, .int (nI (cntN (weP σ (decide (b0 = 1)) p0) i))), (0, .ref (ad 0)), (1, .int (nI (b0))), (2, .int (nI (p0)))]) hx hb dX11_weighed_80 hl (by decide) rfl (fun ls hl => ?_)
                refine lv_iload_n hx hb dX11_weighed_82 rfl (lv_at hl 2 rfl) ?_
                refine lv_iload hx hb dX11_weighed_83 (lv_at hl 0 rfl) ?_
                refine lb_if_eq (tgt := 106) hx hb dX11_weighed_85 (by decide) (fun c85 => ?_) (fun c85 => ?_)
                · refine lv_iconst (v := nI 0) hx hb dX11_weighed_106 (by decide) ?_
                  refine ln_iadd hx hb dX11_weighed_107 ?_
                  refine ln_nat (show (cntN (weP σ (decide (b0 = 1)) p0) i) + 0 = cntN (weP σ (decide (b0 = 1)) p0) (i + 1) from by first | exact cntN_f (weP_f1 c85) | exact cntN_t (weP_t (by omega) c85 c99) | exact cntN_f (weP_f2 c99)) ?_
                  refine lv_istore_n (lv' := [(3, .int (nI (cntN (weP σ (decide (b0 = 1)) p0) (i + 1)))), (5, .int (bI (onB (decide (b0 = 1)) i (s_ov σ)))), (4, .int (nI (i))), (0, .ref (ad 0)), (1, .int (nI (b0))), (2, .int (nI (p0)))]) hx hb dX11_weighed_108 rfl hl (by decide) rfl (fun ls hl => ?_)
                  refine ln_iinc (lv' := [(4, .int (nI (i + 1))), (3, .int (nI (cntN (weP σ (decide (b0 = 1)) p0) (i + 1)))), (5, .int (bI (onB (decide (b0 = 1)) i (s_ov σ)))), (0, .ref (ad 0)), (1, .int (nI (b0))), (2, .int (nI (p0)))]) hx hb dX11_weighed_109 hl (k := 2) (n := 1) rfl (by decide) rfl (fun ls hl => ?_)
                  refine lv_goto (tgt := 29) hx hb dX11_weighed_112 (by decide) ?_
                  have hl : lv_has ls 6 [(4, .int (nI (i + 1))), (3, .int (nI (cntN (weP σ (decide (b0 = 1)) p0) (i + 1)))), (0, .ref (ad 0)), (1, .int (nI (b0))), (2, .int (nI (p0)))] := lv_sub hl [0, 1, 3, 4, 5] rfl
                  exact ih_lp (i + 1) ls (by omega) (by omega)  hl
                · have hpd := pdA_le hw i (s_of σ)
                  refine lv_aload_n hx hb dX11_weighed_88 rfl (lv_at hl 3 rfl) ?_
                  refine lv_iload hx hb dX11_weighed_89 (lv_at hl 1 rfl) ?_
                  refine lv_aload_n hx hb dX11_weighed_91 rfl (lv_at hl 3 rfl) ?_
                  refine va_get (D := D) (ci := 10) (v := .int (nI (s_of σ))) (C := RX11) (T := TX11) (N := 31) hx hb hts ni11 hown hK hP 0 (mw_c0 cy ad σ T) rfl 19 (by decide) (hts _ flX11_161) (fun _ h => h) rfl dX11_weighed_92 ?_
                  refine cr_v (n := 2) (As := [.int (nI (i)), .int (nI (s_of σ))]) (rest := [.int (nI (cntN (weP σ (decide (b0 = 1)) p0) i))]) ⟨hx, hb, hml, hown, hts⟩ (k_X11_poundsOfAll l D cy ad σ T i (s_of σ) hw (by omega) (by omega)) gvX11_198 (by decide +kernel) ⟨Nat.le_of_ble_eq_true rfl, Nat.le_of_ble_eq_true rfl⟩ hK hN hP 0 (mw_c0 cy ad σ T) rfl rfl hl.1 rfl (Nat.le_of_ble_eq_true rfl) dX11_weighed_95 ⟨Nat.zero_le _, Nat.zero_le _⟩ ?_
                  refine lv_iload_n hx hb dX11_weighed_98 rfl (lv_at hl 5 rfl) ?_
                  refine ln_icmp_ne (tgt := 106) hx hb dX11_weighed_99 (by decide) (by omega) (by omega) (fun c99 => ?_) (fun c99 => ?_)
                  · refine lv_iconst (v := nI 0) hx hb dX11_weighed_106 (by decide) ?_
                    refine ln_iadd hx hb dX11_weighed_107 ?_
                    refine ln_nat (show (cntN (weP σ (decide (b0 = 1)) p0) i) + 0 = cntN (weP σ (decide (b0 = 1)) p0) (i + 1) from by first | exact cntN_f (weP_f1 c85) | exact cntN_t (weP_t (by omega) c85 c99) | exact cntN_f (weP_f2 c99)) ?_
                    refine lv_istore_n (lv' := [(3, .int (nI (cntN (weP σ (decide (b0 = 1)) p0) (i + 1)))), (5, .int (bI (onB (decide (b0 = 1)) i (s_ov σ)))), (4, .int (nI (i))), (0, .ref (ad 0)), (1, .int (nI (b0))), (2, .int (nI (p0)))]) hx hb dX11_weighed_108 rfl hl (by decide) rfl (fun ls hl => ?_)
                    refine ln_iinc (lv' := [(4, .int (nI (i + 1))), (3, .int (nI (cntN (weP σ (decide (b0 = 1)) p0) (i + 1)))), (5, .int (bI (onB (decide (b0 = 1)) i (s_ov σ)))), (0, .ref (ad 0)), (1, .int (nI (b0))), (2, .int (nI (p0)))]) hx hb dX11_weighed_109 hl (k := 2) (n := 1) rfl (by decide) rfl (fun ls hl => ?_)
                    refine lv_goto (tgt := 29) hx hb dX11_weighed_112 (by decide) ?_
                    have hl : lv_has ls 6 [(4, .int (nI (i + 1))), (3, .int (nI (cntN (weP σ (decide (b0 = 1)) p0) (i + 1)))), (0, .ref (ad 0)), (1, .int (nI (b0))), (2, .int (nI (p0)))] := lv_sub hl [0, 1, 3, 4, 5] rfl
                    exact ih_lp (i + 1) ls (by omega) (by omega)  hl
                  · refine lv_iconst (v := nI 1) hx hb dX11_weighed_102 (by decide) ?_
                    refine lv_goto (tgt := 107) hx hb dX11_weighed_103 (by decide) ?_
                    refine ln_iadd hx hb dX11_weighed_107 ?_
                    refine ln_nat (show (cntN (weP σ (decide (b0 = 1)) p0) i) + 1 = cntN (weP σ (decide (b0 = 1)) p0) (i + 1) from by first | exact cntN_f (weP_f1 c85) | exact cntN_t (weP_t (by omega) c85 c99) | exact cntN_f (weP_f2 c99)) ?_
                    refine lv_istore_n (lv' := [(3, .int (nI (cntN (weP σ (decide (b0 = 1)) p0) (i + 1)))), (5, .int (bI (onB (decide (b0 = 1)) i (s_ov σ)))), (4, .int (nI (i))), (0, .ref (ad 0)), (1, .int (nI (b0))), (2, .int (nI (p0)))]) hx hb dX11_weighed_108 rfl hl (by decide) rfl (fun ls hl => ?_)
                    refine ln_iinc (lv' := [(4, .int (nI (i + 1))), (3, .int (nI (cntN (weP σ (decide (b0 = 1)) p0) (i + 1)))), (5, .int (bI (onB (decide (b0 = 1)) i (s_ov σ)))), (0, .ref (ad 0)), (1, .int (nI (b0))), (2, .int (nI (p0)))]) hx hb dX11_weighed_109 hl (k := 2) (n := 1) rfl (by decide) rfl (fun ls hl => ?_)
                    refine lv_goto (tgt := 29) hx hb dX11_weighed_112 (by decide) ?_
                    have hl : lv_has ls 6 [(4, .int (nI (i + 1))), (3, .int (nI (cntN (weP σ (decide (b0 = 1)) p0) (i + 1)))), (0, .ref (ad 0)), (1, .int (nI (b0))), (2, .int (nI (p0)))] := lv_sub hl [0, 1, 3, 4, 5] rfl
                    exact ih_lp (i + 1) ls (by omega) (by omega)  hl
      have hl : lv_has ls 6 [(4, .int (nI (1))), (3, .int (nI (cntN (weP σ (decide (b0 = 1)) p0) 1))), (0, .ref (ad 0)), (1, .int (nI (b0))), (2, .int (nI (p0)))] := lv_sub hl [0, 1, 2, 3, 4] rfl
      exact lp (2 ^ s_n σ - 1) 1 ls (by omega) (by omega)  hl
    · refine lv_bipush (v := -3) hx hb dX11_weighed_21 (by decide) ?_
      exact rt_i hx hb hr hlocks (by rw [a_weighed, c4, show okP pn = false from c18]; rfl) dX11_weighed_23
  · refine lv_bipush (v := -2) hx hb dX11_weighed_7 (by decide) ?_
    exact rt_i hx hb hr hlocks (by rw [a_weighed, c4]; rfl) dX11_weighed_9
theorem can_t {a : Bool} {p : Nat → Bool} {i : Nat} (h : (a && allN p i) = true) (c : p i = true) : nI 1 = bI (a && allN p (i + 1)) := by rw [allN, c, Bool.and_true, h]; rfl
theorem can_f1 {a : Bool} {p : Nat → Bool} {i : Nat} (h : (a && allN p i) = false) : nI 0 = bI (a && allN p (i + 1)) := by rw [allN, ← Bool.and_assoc, h]; rfl
theorem can_f2 {a : Bool} {p : Nat → Bool} {i : Nat} (c : p i = false) : nI 0 = bI (a && allN p (i + 1)) := by rw [allN, c, Bool.and_false, Bool.and_false]; rfl
theorem haP_t {σ : Sg} {f x h : Nat} (c : hatOk σ x h = true) (d : isR σ f x (s_ov σ) (s_mo σ) h = true) : haP σ f x h = true := by rw [haP, c, d]; rfl
theorem haP_f1 {σ : Sg} {f x h : Nat} (c : hatOk σ x h = false) : haP σ f x h = false := by rw [haP, c]; rfl
theorem haP_f2 {σ : Sg} {f x h : Nat} (d : isR σ f x (s_ov σ) (s_mo σ) h = false) : haP σ f x h = false := by rw [haP, d, Bool.and_false]
theorem lwt_skip {p : Nat → Bool} {w : Nat → Nat} {i k : Nat} (h : lwt p w i = some k) (d : w k ≤ w i) : nI k = oI (lwt p w (i + 1)) := by
  rw [lwt, h]
  split
  · dsimp only; rw [if_neg (Nat.not_lt.mpr d)]; rfl
  · rfl
set_option maxHeartbeats 4000000 in
set_option maxRecDepth 100000 in
theorem k_X11_hats (l : Launch) (D : va_G) (cy : Nat → ClassId) (ad : Nat → Nat) (σ : Sg) (T : Ms) (f x w : Int32) (hw : wfS σ) : MR l yX11_hats qX11_hats 4 [.ref (ad 0), .int (f), .int (x), .int (w)] D cy (mw cy ad σ T) (a_hats σ f x w) := by
  refine Met.ofW (cc := cX11_hats) (maxL := 8) (ret := (some .int)) (by decide) rfl ?_
  intro p e s m args below meth c s₁ B hml hv
  obtain ⟨rfl, hP, hK, hN⟩ := hv
  have hx := B.exec
  have hb := B.bytes
  have hr := B.returns
  have hlocks := B.notSynchronized
  have hts : ∀ cq ∈ tg, cq.before ([.ref (ad 0), .int (f), .int (x), .int (w)] : List Value).toArray s = true := fun cq h => atoms_spec (ws := qX11_hats) B.pre cq (List.mem_cons_of_mem _ h)
  have hown : s.vm.findClass RX11 = some m.cls := findClass_of_methodNamed B.named
  have hl := lv_entry ([.ref (ad 0), .int (f), .int (x), .int (w)]) (n := 8) (Nat.le_of_ble_eq_true rfl)
  rw [lg_entry_eq]
  generalize (lg_sl ([.ref (ad 0), .int (f), .int (x), .int (w)]) ++ List.replicate (8 - (lg_sl ([.ref (ad 0), .int (f), .int (x), .int (w)])).length) Slot.unset).toArray = ls at hl ⊢
  have hl : lv_has ls 8 [(0, .ref (ad 0)), (1, .int (f)), (2, .int (x)), (3, .int (w))] := hl
  have hw1 := hw.1
  have hw2 := hw.2.1
  have hp8 := pw_8 hw1
  have hov := ov_lt hw
  have hmo := mo_lt hw
  have hof := of_lt hw
  have hpp := pw_pos (s_n σ)
  refine lv_aload_n hx hb dX11_hats_0 rfl (lv_at hl 0 rfl) ?_
  refine lv_iload_n hx hb dX11_hats_1 rfl (lv_at hl 1 rfl) ?_
  refine cr_v (n := 1) (As := [.int (f)]) (rest := []) ⟨hx, hb, hml, hown, hts⟩ (k_X11_isFerry l D cy ad σ T (f) hw) gvX11_184 (by decide +kernel) ⟨Nat.le_of_ble_eq_true rfl, Nat.le_of_ble_eq_true rfl⟩ hK hN hP 0 (mw_c0 cy ad σ T) rfl rfl hl.1 rfl (Nat.le_of_ble_eq_true rfl) dX11_hats_2 ⟨Nat.zero_le _, Nat.zero_le _⟩ ?_
  refine lb_if_eq (tgt := 16) hx hb dX11_hats_5 (by decide) (fun c5 => ?_) (fun c5 => ?_)
  · refine lv_bipush (v := -2) hx hb dX11_hats_16 (by decide) ?_
    exact rt_i hx hb hr hlocks (by first | (rw [a_hats, c5]; rfl; done) | (rw [a_hats, c5, c13]; rfl)) dX11_hats_18
  · refine lv_aload_n hx hb dX11_hats_8 rfl (lv_at hl 0 rfl) ?_
    refine lv_iload_n hx hb dX11_hats_9 rfl (lv_at hl 2 rfl) ?_
    refine cr_v (n := 1) (As := [.int (x)]) (rest := []) ⟨hx, hb, hml, hown, hts⟩ (k_X11_isSet l D cy ad σ T (x) hw) gvX11_204 (by decide +kernel) ⟨Nat.le_of_ble_eq_true rfl, Nat.le_of_ble_eq_true rfl⟩ hK hN hP 0 (mw_c0 cy ad σ T) rfl rfl hl.1 rfl (Nat.le_of_ble_eq_true rfl) dX11_hats_10 ⟨Nat.zero_le _, Nat.zero_le _⟩ ?_
    refine lb_if_ne (tgt := 19) hx hb dX11_hats_13 (by decide) (fun c13 => ?_) (fun c13 => ?_)
    · obtain ⟨f0, hf, rfl⟩ := ix_of c5 (by omega)
      have hl : lv_has ls 8 [(0, .ref (ad 0)), (1, .int (nI (f0))), (2, .int (x)), (3, .int (w))] := hl
      obtain ⟨x0, hx0, rfl⟩ := ix_of c13 (by omega)
      have hl : lv_has ls 8 [(0, .ref (ad 0)), (1, .int (nI (f0))), (2, .int (nI (x0))), (3, .int (w))] := hl
      refine lv_iload_n hx hb dX11_hats_19 rfl (lv_at hl 3 rfl) ?_
      refine lv_iconst (v := nI 0) hx hb dX11_hats_20 (by decide) ?_
      refine lv_iconst (v := nI 1) hx hb dX11_hats_21 (by decide) ?_
      refine cr_s (n := 3) (As := [.int (w), .int (nI (0)), .int (nI (1))]) (rest := []) ⟨hx, hb, hml, hown, hts⟩ (k_X11_in l (w) (nI (0)) (nI (1))) gsX11_51 (by decide +kernel) ⟨Nat.le_of_ble_eq_true rfl, Nat.le_of_ble_eq_true rfl⟩ rfl hl.1 rfl (Nat.le_of_ble_eq_true rfl) dX11_hats_22 ⟨Nat.zero_le _, Nat.zero_le _⟩ ?_
      refine lb_if_ne (tgt := 31) hx hb dX11_hats_25 (by decide) (fun c25 => ?_) (fun c25 => ?_)
      · obtain ⟨w0, hw0, rfl⟩ := ix_of (ix2 c25) (by omega)
        have hl : lv_has ls 8 [(0, .ref (ad 0)), (1, .int (nI (f0))), (2, .int (nI (x0))), (3, .int (nI (w0)))] := hl
        refine lv_iconst (v := -1) hx hb dX11_hats_31 (by decide) ?_
        refine lv_istore (lv' := [(4, .int (-1)), (0, .ref (ad 0)), (1, .int (nI (f0))), (2, .int (nI (x0))), (3, .int (nI (w0)))]) hx hb dX11_hats_32 hl (by decide) rfl (fun ls hl => ?_)
        refine lv_iconst (v := nI 0) hx hb dX11_hats_34 (by decide) ?_
        refine lv_istore (lv' := [(5, .int (nI (0))), (4, .int (-1)), (0, .ref (ad 0)), (1, .int (nI (f0))), (2, .int (nI (x0))), (3, .int (nI (w0)))]) hx hb dX11_hats_35 hl (by decide) rfl (fun ls hl => ?_)
        have lp : ∀ (k_lp i : Nat) (ls : Array Slot)  , i + k_lp = 2 ^ s_n σ → lv_has ls 8 [(5, .int (nI (i))), (4, .int (oI (lwt (haP σ f0 x0) bits i))), (0, .ref (ad 0)), (1, .int (nI (f0))), (2, .int (nI (x0))), (3, .int (nI (w0)))] → W p l e (headSpec qX11_hats (rq 4)).room s m ([.ref (ad 0), .int (nI (f0)), .int (nI (x0)), .int (nI (w0))] : List Value).toArray below meth c s.heap [] 0 0 (MQ below (vp_Si (fun r => r = a_hats σ (nI f0) (nI x0) (nI w0))) ([.ref (ad 0), .int (nI (f0)), .int (nI (x0)), .int (nI (w0))] : List Value).toArray s 0 0 (fun _ => False)) (F0 m 37 ls []) := by
          intro k_lp
          induction k_lp with
          | zero =>
            intro i ls hi_lp hl
            refine lv_iload hx hb dX11_hats_37 (lv_at hl 0 rfl) ?_
            refine lv_iconst (v := nI 1) hx hb dX11_hats_39 (by decide) ?_
            refine lv_aload_n hx hb dX11_hats_40 rfl (lv_at hl 2 rfl) ?_
            refine va_get (D := D) (ci := 10) (v := .int (nI (s_n σ))) (C := RX11) (T := TX11) (N := 31) hx hb hts ni11 hown hK hP 0 (mw_c0 cy ad σ T) rfl 0 (by decide) (hts _ flX11_47) (fun _ h => h) rfl dX11_hats_41 ?_
            refine ln_ishl hx hb dX11_hats_44 (by omega) (by omega) ?_
            refine ln_icmp_ge (tgt := 171) hx hb dX11_hats_45 (by decide) (by omega) (by omega) (fun c45 => ?_) (fun c45 => ?_)
            · rcases hqb : lwt (haP σ f0 x0) bits i with _ | b
              · rw [hqb] at hl
                have hl : lv_has ls 8 [(5, .int (nI (i))), (4, .int (-1)), (0, .ref (ad 0)), (1, .int (nI (f0))), (2, .int (nI (x0))), (3, .int (nI (w0)))] := hl
                refine lv_iload hx hb dX11_hats_171 (lv_at hl 1 rfl) ?_
                refine lv_iconst (v := -1) hx hb dX11_hats_173 (by decide) ?_
                refine lv_icmp_eq (tgt := 182) hx hb dX11_hats_174 (by decide) (fun _ => ?_) (fun c => absurd rfl c)
                refine lv_iload hx hb dX11_hats_182 (lv_at hl 1 rfl) ?_
                refine lv_goto (tgt := 192) hx hb dX11_hats_184 (by decide) ?_
                exact rt_i hx hb hr hlocks (by rw [a_hats, c5, c13, ix2 c25, tk_nI (k := f0) (by omega), tk_nI (k := x0) (by omega), tk_nI (k := w0) (by omega), if_neg (by decide), if_neg (by decide), haB]; rw [show i = 2 ^ s_n σ by omega] at hqb; first | (rw [hqb]; done) | (rw [hqb]; rfl; done) | (rw [hqb]; simp only [if_pos c179]; done) | (rw [hqb]; simp only [if_neg c179]; done)) dX11_hats_192
              · rw [hqb] at hl
                have hl : lv_has ls 8 [(5, .int (nI (i))), (4, .int (nI (b))), (0, .ref (ad 0)), (1, .int (nI (f0))), (2, .int (nI (x0))), (3, .int (nI (w0)))] := hl
                have hltb := lwt_lt hqb
                refine lv_iload hx hb dX11_hats_171 (lv_at hl 1 rfl) ?_
                refine lv_iconst (v := -1) hx hb dX11_hats_173 (by decide) ?_
                refine lv_icmp_eq (tgt := 182) hx hb dX11_hats_174 (by decide) (fun c => absurd c (m1_ne _ (by omega))) (fun _ => ?_)
                refine lv_iload_n hx hb dX11_hats_177 rfl (lv_at hl 5 rfl) ?_
                refine lv_iconst (v := nI 1) hx hb dX11_hats_178 (by decide) ?_
                refine ln_icmp_ne (tgt := 187) hx hb dX11_hats_179 (by decide) (by omega) (by omega) (fun c179 => ?_) (fun c179 => ?_)
                · refine lv_iload hx hb dX11_hats_187 (lv_at hl 1 rfl) ?_
                  refine cr_s (n := 1) (As := [.int (nI (b))]) (rest := []) ⟨hx, hb, hml, hown, hts⟩ (k_X11_bits l b (by omega)) gsX11_195 (by decide +kernel) ⟨Nat.le_of_ble_eq_true rfl, Nat.le_of_ble_eq_true rfl⟩ rfl hl.1 rfl (Nat.le_of_ble_eq_true rfl) dX11_hats_189 ⟨Nat.zero_le _, Nat.zero_le _⟩ ?_
                  exact rt_i hx hb hr hlocks (by rw [a_hats, c5, c13, ix2 c25, tk_nI (k := f0) (by omega), tk_nI (k := x0) (by omega), tk_nI (k := w0) (by omega), if_neg (by decide), if_neg (by decide), haB]; rw [show i = 2 ^ s_n σ by omega] at hqb; first | (rw [hqb]; done) | (rw [hqb]; rfl; done) | (rw [hqb]; simp only [if_pos c179]; done) | (rw [hqb]; simp only [if_neg c179]; done)) dX11_hats_192
                · refine lv_iload hx hb dX11_hats_182 (lv_at hl 1 rfl) ?_
                  refine lv_goto (tgt := 192) hx hb dX11_hats_184 (by decide) ?_
                  exact rt_i hx hb hr hlocks (by rw [a_hats, c5, c13, ix2 c25, tk_nI (k := f0) (by omega), tk_nI (k := x0) (by omega), tk_nI (k := w0) (by omega), if_neg (by decide), if_neg (by decide), haB]; rw [show i = 2 ^ s_n σ by omega] at hqb; first | (rw [hqb]; done) | (rw [hqb]; rfl; done) | (rw [hqb]; simp only [if_pos c179]; done) | (rw [hqb]; simp only [if_neg c179]; done)) dX11_hats_192
            · exact absurd c45 (by omega)
          | succ k_lp ih_lp =>
            intro i ls hi_lp hl
            refine lv_iload hx hb dX11_hats_37 (lv_at hl 0 rfl) ?_
            refine lv_iconst (v := nI 1) hx hb dX11_hats_39 (by decide) ?_
            refine lv_aload_n hx hb dX11_hats_40 rfl (lv_at hl 2 rfl) ?_
            refine va_get (D := D) (ci := 10) (v := .int (nI (s_n σ))) (C := RX11) (T := TX11) (N := 31) hx hb hts ni11 hown hK hP 0 (mw_c0 cy ad σ T) rfl 0 (by decide) (hts _ flX11_47) (fun _ h => h) rfl dX11_hats_41 ?_
            refine ln_ishl hx hb dX11_hats_44 (by omega) (by omega) ?_
            refine ln_icmp_ge (tgt := 171) hx hb dX11_hats_45 (by decide) (by omega) (by omega) (fun c45 => ?_) (fun c45 => ?_)
            · exact absurd c45 (by omega)
            · refine lv_iload hx hb dX11_hats_48 (lv_at hl 0 rfl) ?_
              refine lv_iload_n hx hb dX11_hats_50 rfl (lv_at hl 4 rfl) ?_
              refine lv_iconst (v := -1) hx hb dX11_hats_51 (by decide) ?_
              refine lv_ixor hx hb dX11_hats_52 ?_
              refine ln_eq (show ((nI (x0)) ^^^ (-1)) = (nI (x0 ^^^ (2 ^ 32 - 1))) from xorm1 _ (by omega)) ?_
              refine ln_iand hx hb dX11_hats_53 ?_
              refine ln_if_ne (tgt := 61) hx hb dX11_hats_54 (by decide) (and_lt (by omega)) (fun c54 => ?_) (fun c54 => ?_)
              · refine lv_iconst (v := nI 0) hx hb dX11_hats_61 (by decide) ?_
                refine ln_eq (show (nI (0)) = (bI (decide (i &&& x0 = i) && allN (fun t => !i.testBit t || decide (s_th σ (6 * t) < 2)) 0)) from by first | (rw [decide_eq_true ((and_not_0 (by omega)).mp c54)]; rfl) | (rw [decide_eq_false (fun q => by rw [(and_not_0 (by omega)).mpr q] at c54; exact absurd c54 (by decide))]; rfl)) ?_
                refine lv_istore (lv' := [(6, .int (bI (decide (i &&& x0 = i) && allN (fun t => !i.testBit t || decide (s_th σ (6 * t) < 2)) 0))), (5, .int (nI (i))), (4, .int (oI (lwt (haP σ f0 x0) bits i))), (0, .ref (ad 0)), (1, .int (nI (f0))), (2, .int (nI (x0))), (3, .int (nI (w0)))]) hx hb dX11_hats_62 hl (by decide) rfl (fun ls hl => ?_)
                refine lv_iconst (v := nI 0) hx hb dX11_hats_64 (by decide) ?_
                refine lv_istore (lv' := [(7, .int (nI (0))), (6, .int (bI (decide (i &&& x0 = i) && allN (fun t => !i.testBit t || decide (s_th σ (6 * t) < 2)) 0))), (5, .int (nI (i))), (4, .int (oI (lwt (haP σ f0 x0) bits i))), (0, .ref (ad 0)), (1, .int (nI (f0))), (2, .int (nI (x0))), (3, .int (nI (w0)))]) hx hb dX11_hats_65 hl (by decide) rfl (fun ls hl => ?_)
                have lq : ∀ (k_lq j : Nat) (ls : Array Slot)  , j + k_lq = s_n σ → lv_has ls 8 [(7, .int (nI (j))), (6, .int (bI (decide (i &&& x0 = i) && allN (fun t => !i.testBit t || decide (s_th σ (6 * t) < 2)) j))), (5, .int (nI (i))), (4, .int (oI (lwt (haP σ f0 x0) bits i))), (0, .ref (ad 0)), (1, .int (nI (f0))), (2, .int (nI (x0))), (3, .int (nI (w0)))] → W p l e (headSpec qX11_hats (rq 4)).room s m ([.ref (ad 0), .int (nI (f0)), .int (nI (x0)), .int (nI (w0))] : List Value).toArray below meth c s.heap [] 0 0 (MQ below (vp_Si (fun r => r = a_hats σ (nI f0) (nI x0) (nI w0))) ([.ref (ad 0), .int (nI (f0)), .int (nI (x0)), .int (nI (w0))] : List Value).toArray s 0 0 (fun _ => False)) (F0 m 67 ls []) := by
                  intro k_lq
                  induction k_lq with
                  | zero =>
                    intro j ls hi_lq hl
                    refine lv_iload hx hb dX11_hats_67 (lv_at hl 0 rfl) ?_
                    refine lv_aload_n hx hb dX11_hats_69 rfl (lv_at hl 4 rfl) ?_
                    refine va_get (D := D) (ci := 10) (v := .int (nI (s_n σ))) (C := RX11) (T := TX11) (N := 31) hx hb hts ni11 hown hK hP 0 (mw_c0 cy ad σ T) rfl 0 (by decide) (hts _ flX11_47) (fun _ h => h) rfl dX11_hats_70 ?_
                    refine ln_icmp_ge (tgt := 118) hx hb dX11_hats_73 (by decide) (by omega) (by omega) (fun c73 => ?_) (fun c73 => ?_)
                    · rw [show j = s_n σ by omega] at hl
                      have hl : lv_has ls 8 [(6, .int (bI (hatOk σ x0 i))), (5, .int (nI (i))), (4, .int (oI (lwt (haP σ f0 x0) bits i))), (0, .ref (ad 0)), (1, .int (nI (f0))), (2, .int (nI (x0))), (3, .int (nI (w0)))] := lv_sub hl [1, 2, 3, 4, 5, 6, 7] rfl
                      refine lv_iload hx hb dX11_hats_118 (lv_at hl 0 rfl) ?_
                      refine lb_if_eq (tgt := 165) hx hb dX11_hats_120 (by decide) (fun c120 => ?_) (fun c120 => ?_)
                      · refine ln_iinc (lv' := [(5, .int (nI (i + 1))), (6, .int (bI (hatOk σ x0 i))), (4, .int (oI (lwt (haP σ f0 x0) bits i))), (0, .ref (ad 0)), (1, .int (nI (f0))), (2, .int (nI (x0))), (3, .int (nI (w0)))]) hx hb dX11_hats_165 hl (k := 1) (n := 1) rfl (by decide) rfl (fun ls hl => ?_)
                        refine lv_goto (tgt := 37) hx hb dX11_hats_168 (by decide) ?_
                        have hl : lv_has ls 8 [(5, .int (nI (i + 1))), (4, .int (oI (lwt (haP σ f0 x0) bits (i + 1)))), (0, .ref (ad 0)), (1, .int (nI (f0))), (2, .int (nI (x0))), (3, .int (nI (w0)))] := by rw [← (show (oI (lwt (haP σ f0 x0) bits i)) = (oI (lwt (haP σ f0 x0) bits (i + 1))) from by first | exact lwt_n hqb (haP_t c120 c158) | exact lwt_g hqb (haP_t c120 c158) c139 | exact lwt_f (haP_f1 c120) | exact lwt_fn hqb (haP_f2 c158) | exact lwt_fs hqb (haP_f2 c158) | exact lwt_skip hqb c139)]; exact lv_sub hl [0, 2, 3, 4, 5, 6] rfl
                        exact ih_lp (i + 1) ls (by omega)  hl
                      · rcases hqb : lwt (haP σ f0 x0) bits i with _ | b
                        · rw [hqb] at hl
                          have hl : lv_has ls 8 [(6, .int (bI (hatOk σ x0 i))), (5, .int (nI (i))), (4, .int (-1)), (0, .ref (ad 0)), (1, .int (nI (f0))), (2, .int (nI (x0))), (3, .int (nI (w0)))] := hl
                          refine lv_iload hx hb dX11_hats_123 (lv_at hl 2 rfl) ?_
                          refine lv_iconst (v := -1) hx hb dX11_hats_125 (by decide) ?_
                          refine lv_icmp_eq (tgt := 142) hx hb dX11_hats_126 (by decide) (fun _ => ?_) (fun c => absurd rfl c)
                          refine lv_aload_n hx hb dX11_hats_142 rfl (lv_at hl 3 rfl) ?_
                          refine lv_iload_n hx hb dX11_hats_143 rfl (lv_at hl 4 rfl) ?_
                          refine lv_iload_n hx hb dX11_hats_144 rfl (lv_at hl 5 rfl) ?_
                          refine lv_aload_n hx hb dX11_hats_145 rfl (lv_at hl 3 rfl) ?_
                          refine va_get (D := D) (ci := 10) (v := .int (nI (s_ov σ))) (C := RX11) (T := TX11) (N := 31) hx hb hts ni11 hown hK hP 0 (mw_c0 cy ad σ T) rfl 17 (by decide) (hts _ flX11_155) (fun _ h => h) rfl dX11_hats_146 ?_
                          refine lv_aload_n hx hb dX11_hats_149 rfl (lv_at hl 3 rfl) ?_
                          refine va_get (D := D) (ci := 10) (v := .int (nI (s_mo σ))) (C := RX11) (T := TX11) (N := 31) hx hb hts ni11 hown hK hP 0 (mw_c0 cy ad σ T) rfl 18 (by decide) (hts _ flX11_158) (fun _ h => h) rfl dX11_hats_150 ?_
                          refine lv_iload hx hb dX11_hats_153 (lv_at hl 1 rfl) ?_
                          refine cr_v (n := 5) (As := [.int (nI (f0)), .int (nI (x0)), .int (nI (s_ov σ)), .int (nI (s_mo σ)), .int (nI (i))]) (rest := []) ⟨hx, hb, hml, hown, hts⟩ (k_X11_isRight l D cy ad σ T f0 x0 (s_ov σ) (s_mo σ) i hw (by omega) (by omega) (by omega) (by omega) (by omega)) gvX11_207 (by decide +kernel) ⟨Nat.le_of_ble_eq_true rfl, Nat.le_of_ble_eq_true rfl⟩ hK hN hP 0 (mw_c0 cy ad σ T) rfl rfl hl.1 rfl (Nat.le_of_ble_eq_true rfl) dX11_hats_155 ⟨Nat.zero_le _, Nat.zero_le _⟩ ?_
                          refine lb_if_eq (tgt := 165) hx hb dX11_hats_158 (by decide) (fun c158 => ?_) (fun c158 => ?_)
                          · refine ln_iinc (lv' := [(5, .int (nI (i + 1))), (6, .int (bI (hatOk σ x0 i))), (4, .int (-1)), (0, .ref (ad 0)), (1, .int (nI (f0))), (2, .int (nI (x0))), (3, .int (nI (w0)))]) hx hb dX11_hats_165 hl (k := 1) (n := 1) rfl (by decide) rfl (fun ls hl => ?_)
                            refine lv_goto (tgt := 37) hx hb dX11_hats_168 (by decide) ?_
                            have hl : lv_has ls 8 [(5, .int (nI (i + 1))), (4, .int (oI (lwt (haP σ f0 x0) bits (i + 1)))), (0, .ref (ad 0)), (1, .int (nI (f0))), (2, .int (nI (x0))), (3, .int (nI (w0)))] := by rw [← (show (-1) = (oI (lwt (haP σ f0 x0) bits (i + 1))) from by first | exact lwt_n hqb (haP_t c120 c158) | exact lwt_g hqb (haP_t c120 c158) c139 | exact lwt_f (haP_f1 c120) | exact lwt_fn hqb (haP_f2 c158) | exact lwt_fs hqb (haP_f2 c158) | exact lwt_skip hqb c139)]; exact lv_sub hl [0, 2, 3, 4, 5, 6] rfl
                            exact ih_lp (i + 1) ls (by omega)  hl
                          · refine lv_iload hx hb dX11_hats_161 (lv_at hl 1 rfl) ?_
                            refine lv_istore (lv' := [(4, .int (nI (i))), (6, .int (bI (hatOk σ x0 i))), (5, .int (nI (i))), (0, .ref (ad 0)), (1, .int (nI (f0))), (2, .int (nI (x0))), (3, .int (nI (w0)))]) hx hb dX11_hats_163 hl (by decide) rfl (fun ls hl => ?_)
                            refine ln_iinc (lv' := [(5, .int (nI (i + 1))), (4, .int (nI (i))), (6, .int (bI (hatOk σ x0 i))), (0, .ref (ad 0)), (1, .int (nI (f0))), (2, .int (nI (x0))), (3, .int (nI (w0)))]) hx hb dX11_hats_165 hl (k := 2) (n := 1) rfl (by decide) rfl (fun ls hl => ?_)
                            refine lv_goto (tgt := 37) hx hb dX11_hats_168 (by decide) ?_
                            have hl : lv_has ls 8 [(5, .int (nI (i + 1))), (4, .int (oI (lwt (haP σ f0 x0) bits (i + 1)))), (0, .ref (ad 0)), (1, .int (nI (f0))), (2, .int (nI (x0))), (3, .int (nI (w0)))] := by rw [← (show (nI (i)) = (oI (lwt (haP σ f0 x0) bits (i + 1))) from by first | exact lwt_n hqb (haP_t c120 c158) | exact lwt_g hqb (haP_t c120 c158) c139 | exact lwt_f (haP_f1 c120) | exact lwt_fn hqb (haP_f2 c158) | exact lwt_fs hqb (haP_f2 c158) | exact lwt_skip hqb c139)]; exact lv_sub hl [0, 1, 3, 4, 5, 6] rfl
                            exact ih_lp (i + 1) ls (by omega)  hl
                        · rw [hqb] at hl
                          have hl : lv_has ls 8 [(6, .int (bI (hatOk σ x0 i))), (5, .int (nI (i))), (4, .int (nI (b))), (0, .ref (ad 0)), (1, .int (nI (f0))), (2, .int (nI (x0))), (3, .int (nI (w0)))] := hl
                          have hltb := lwt_lt hqb
                          refine lv_iload hx hb dX11_hats_123 (lv_at hl 2 rfl) ?_
                          refine lv_iconst (v := -1) hx hb dX11_hats_125 (by decide) ?_
                          refine lv_icmp_eq (tgt := 142) hx hb dX11_hats_126 (by decide) (fun c => absurd c (m1_ne _ (by omega))) (fun _ => ?_)
                          have hb1 := bits_le i
                          have hb2 := bits_le b
                          refine lv_iload hx hb dX11_hats_129 (lv_at hl 1 rfl) ?_
                          refine cr_s (n := 1) (As := [.int (nI (i))]) (rest := []) ⟨hx, hb, hml, hown, hts⟩ (k_X11_bits l i (by omega)) gsX11_195 (by decide +kernel) ⟨Nat.le_of_ble_eq_true rfl, Nat.le_of_ble_eq_true rfl⟩ rfl hl.1 rfl (Nat.le_of_ble_eq_true rfl) dX11_hats_131 ⟨Nat.zero_le _, Nat.zero_le _⟩ ?_
                          refine lv_iload hx hb dX11_hats_134 (lv_at hl 2 rfl) ?_
                          refine cr_s (n := 1) (As := [.int (nI (b))]) (rest := [.int (nI (bits i))]) ⟨hx, hb, hml, hown, hts⟩ (k_X11_bits l b (by omega)) gsX11_195 (by decide +kernel) ⟨Nat.le_of_ble_eq_true rfl, Nat.le_of_ble_eq_true rfl⟩ rfl hl.1 rfl (Nat.le_of_ble_eq_true rfl) dX11_hats_136 ⟨Nat.zero_le _, Nat.zero_le _⟩ ?_
                          refine ln_icmp_ge (tgt := 165) hx hb dX11_hats_139 (by decide) (by omega) (by omega) (fun c139 => ?_) (fun c139 => ?_)
                          · refine ln_iinc (lv' := [(5, .int (nI (i + 1))), (6, .int (bI (hatOk σ x0 i))), (4, .int (nI (b))), (0, .ref (ad 0)), (1, .int (nI (f0))), (2, .int (nI (x0))), (3, .int (nI (w0)))]) hx hb dX11_hats_165 hl (k := 1) (n := 1) rfl (by decide) rfl (fun ls hl => ?_)
                            refine lv_goto (tgt := 37) hx hb dX11_hats_168 (by decide) ?_
                            have hl : lv_has ls 8 [(5, .int (nI (i + 1))), (4, .int (oI (lwt (haP σ f0 x0) bits (i + 1)))), (0, .ref (ad 0)), (1, .int (nI (f0))), (2, .int (nI (x0))), (3, .int (nI (w0)))] := by rw [← (show (nI (b)) = (oI (lwt (haP σ f0 x0) bits (i + 1))) from by first | exact lwt_n hqb (haP_t c120 c158) | exact lwt_g hqb (haP_t c120 c158) c139 | exact lwt_f (haP_f1 c120) | exact lwt_fn hqb (haP_f2 c158) | exact lwt_fs hqb (haP_f2 c158) | exact lwt_skip hqb c139)]; exact lv_sub hl [0, 2, 3, 4, 5, 6] rfl
                            exact ih_lp (i + 1) ls (by omega)  hl
                          · refine lv_aload_n hx hb dX11_hats_142 rfl (lv_at hl 3 rfl) ?_
                            refine lv_iload_n hx hb dX11_hats_143 rfl (lv_at hl 4 rfl) ?_
                            refine lv_iload_n hx hb dX11_hats_144 rfl (lv_at hl 5 rfl) ?_
                            refine lv_aload_n hx hb dX11_hats_145 rfl (lv_at hl 3 rfl) ?_
                            refine va_get (D := D) (ci := 10) (v := .int (nI (s_ov σ))) (C := RX11) (T := TX11) (N := 31) hx hb hts ni11 hown hK hP 0 (mw_c0 cy ad σ T) rfl 17 (by decide) (hts _ flX11_155) (fun _ h => h) rfl dX11_hats_146 ?_
                            refine lv_aload_n hx hb dX11_hats_149 rfl (lv_at hl 3 rfl) ?_
                            refine va_get (D := D) (ci := 10) (v := .int (nI (s_mo σ))) (C := RX11) (T := TX11) (N := 31) hx hb hts ni11 hown hK hP 0 (mw_c0 cy ad σ T) rfl 18 (by decide) (hts _ flX11_158) (fun _ h => h) rfl dX11_hats_150 ?_
                            refine lv_iload hx hb dX11_hats_153 (lv_at hl 1 rfl) ?_
                            refine cr_v (n := 5) (As := [.int (nI (f0)), .int (nI (x0)), .int (nI (s_ov σ)), .int (nI (s_mo σ)), .int (nI (i))]) (rest := []) ⟨hx, hb, hml, hown, hts⟩ (k_X11_isRight l D cy ad σ T f0 x0 (s_ov σ) (s_mo σ) i hw (by omega) (by omega) (by omega) (by omega) (by omega)) gvX11_207 (by decide +kernel) ⟨Nat.le_of_ble_eq_true rfl, Nat.le_of_ble_eq_true rfl⟩ hK hN hP 0 (mw_c0 cy ad σ T) rfl rfl hl.1 rfl (Nat.le_of_ble_eq_true rfl) dX11_hats_155 ⟨Nat.zero_le _, Nat.zero_le _⟩ ?_
                            refine lb_if_eq (tgt := 165) hx hb dX11_hats_158 (by decide) (fun c158 => ?_) (fun c158 => ?_)
                            · refine ln_iinc (lv' := [(5, .int (nI (i + 1))), (6, .int (bI (hatOk σ x0 i))), (4, .int (nI (b))), (0, .ref (ad 0)), (1, .int (nI (f0))), (2, .int (nI (x0))), (3, .int (nI (w0)))]) hx hb dX11_hats_165 hl (k := 1) (n := 1) rfl (by decide) rfl (fun ls hl => ?_)
                              refine lv_goto (tgt := 37) hx hb dX11_hats_168 (by decide) ?_
                              have hl : lv_has ls 8 [(5, .int (nI (i + 1))), (4, .int (oI (lwt (haP σ f0 x0) bits (i + 1)))), (0, .ref (ad 0)), (1, .int (nI (f0))), (2, .int (nI (x0))), (3, .int (nI (w0)))] := by rw [← (show (nI (b)) = (oI (lwt (haP σ f0 x0) bits (i + 1))) from by first | exact lwt_n hqb (haP_t c120 c158) | exact lwt_g hqb (haP_t c120 c158) c139 | exact lwt_f (haP_f1 c120) | exact lwt_fn hqb (haP_f2 c158) | exact lwt_fs hqb (haP_f2 c158) | exact lwt_skip hqb c139)]; exact lv_sub hl [0, 2, 3, 4, 5, 6] rfl
                              exact ih_lp (i + 1) ls (by omega)  hl
                            · refine lv_iload hx hb dX11_hats_161 (lv_at hl 1 rfl) ?_
                              refine lv_istore (lv' := [(4, .int (nI (i))), (6, .int (bI (hatOk σ x0 i))), (5, .int (nI (i))), (0, .ref (ad 0)), (1, .int (nI (f0))), (2, .int (nI (x0))), (3, .int (nI (w0)))]) hx hb dX11_hats_163 hl (by decide) rfl (fun ls hl => ?_)
                              refine ln_iinc (lv' := [(5, .int (nI (i + 1))), (4, .int (nI (i))), (6, .int (bI (hatOk σ x0 i))), (0, .ref (ad 0)), (1, .int (nI (f0))), (2, .int (nI (x0))), (3, .int (nI (w0)))]) hx hb dX11_hats_165 hl (k := 2) (n := 1) rfl (by decide) rfl (fun ls hl => ?_)
                              refine lv_goto (tgt := 37) hx hb dX11_hats_168 (by decide) ?_
                              have hl : lv_has ls 8 [(5, .int (nI (i + 1))), (4, .int (oI (lwt (haP σ f0 x0) bits (i + 1)))), (0, .ref (ad 0)), (1, .int (nI (f0))), (2, .int (nI (x0))), (3, .int (nI (w0)))] := by rw [← (show (nI (i)) = (oI (lwt (haP σ f0 x0) bits (i + 1))) from by first | exact lwt_n hqb (haP_t c120 c158) | exact lwt_g hqb (haP_t c120 c158) c139 | exact lwt_f (haP_f1 c120) | exact lwt_fn hqb (haP_f2 c158) | exact lwt_fs hqb (haP_f2 c158) | exact lwt_skip hqb c139)]; exact lv_sub hl [0, 1, 3, 4, 5, 6] rfl
                              exact ih_lp (i + 1) ls (by omega)  hl
                    · exact absurd c73 (by omega)
                  | succ k_lq ih_lq =>
                    intro j ls hi_lq hl
                    refine lv_iload hx hb dX11_hats_67 (lv_at hl 0 rfl) ?_
                    refine lv_aload_n hx hb dX11_hats_69 rfl (lv_at hl 4 rfl) ?_
                    refine va_get (D := D) (ci := 10) (v := .int (nI (s_n σ))) (C := RX11) (T := TX11) (N := 31) hx hb hts ni11 hown hK hP 0 (mw_c0 cy ad σ T) rfl 0 (by decide) (hts _ flX11_47) (fun _ h => h) rfl dX11_hats_70 ?_
                    refine ln_icmp_ge (tgt := 118) hx hb dX11_hats_73 (by decide) (by omega) (by omega) (fun c73 => ?_) (fun c73 => ?_)
                    · exact absurd c73 (by omega)
                    · refine lv_iload hx hb dX11_hats_76 (lv_at hl 1 rfl) ?_
                      refine lb_if_eq (tgt := 109) hx hb dX11_hats_78 (by decide) (fun c78 => ?_) (fun c78 => ?_)
                      · refine lv_iconst (v := nI 0) hx hb dX11_hats_109 (by decide) ?_
                        refine ln_eq (show (nI (0)) = (bI (decide (i &&& x0 = i) && allN (fun t => !i.testBit t || decide (s_th σ (6 * t) < 2)) (j + 1))) from by first | exact can_f1 c78 | exact can_t c78 (by first | (simp [c88]; done) | (simp [c88]; omega)) | exact can_f2 (by simp [c88]; omega)) ?_
                        refine lv_istore (lv' := [(6, .int (bI (decide (i &&& x0 = i) && allN (fun t => !i.testBit t || decide (s_th σ (6 * t) < 2)) (j + 1)))), (7, .int (nI (j))), (5, .int (nI (i))), (4, .int (oI (lwt (haP σ f0 x0) bits i))), (0, .ref (ad 0)), (1, .int (nI (f0))), (2, .int (nI (x0))), (3, .int (nI (w0)))]) hx hb dX11_hats_110 hl (by decide) rfl (fun ls hl => ?_)
                        refine ln_iinc (lv' := [(7, .int (nI (j + 1))), (6, .int (bI (decide (i &&& x0 = i) && allN (fun t => !i.testBit t || decide (s_th σ (6 * t) < 2)) (j + 1)))), (5, .int (nI (i))), (4, .int (oI (lwt (haP σ f0 x0) bits i))), (0, .ref (ad 0)), (1, .int (nI (f0))), (2, .int (nI (x0))), (3, .int (nI (w0)))]) hx hb dX11_hats_112 hl (k := 1) (n := 1) rfl (by decide) rfl (fun ls hl => ?_)
                        refine lv_goto (tgt := 67) hx hb dX11_hats_115 (by decide) ?_
                        have hl : lv_has ls 8 [(7, .int (nI (j + 1))), (6, .int (bI (decide (i &&& x0 = i) && allN (fun t => !i.testBit t || decide (s_th σ (6 * t) < 2)) (j + 1)))), (5, .int (nI (i))), (4, .int (oI (lwt (haP σ f0 x0) bits i))), (0, .ref (ad 0)), (1, .int (nI (f0))), (2, .int (nI (x0))), (3, .int (nI (w0)))] := lv_sub hl [0, 1, 2, 3, 4, 5, 6, 7] rfl
                        exact ih_lq (j + 1) ls (by omega)  hl
                      · refine lv_iload hx hb dX11_hats_81 (lv_at hl 2 rfl) ?_
                        refine lv_iload hx hb dX11_hats_83 (lv_at hl 0 rfl) ?_
                        refine cr_s (n := 2) (As := [.int (nI (i)), .int (nI (j))]) (rest := []) ⟨hx, hb, hml, hown, hts⟩ (k_X11_has l i j (by omega) (by omega)) gsX11_173 (by decide +kernel) ⟨Nat.le_of_ble_eq_true rfl, Nat.le_of_ble_eq_true rfl⟩ rfl hl.1 rfl (Nat.le_of_ble_eq_true rfl) dX11_hats_85 ⟨Nat.zero_le _, Nat.zero_le _⟩ ?_
                        refine lb_if_eq (tgt := 105) hx hb dX11_hats_88 (by decide) (fun c88 => ?_) (fun c88 => ?_)
                        · refine lv_iconst (v := nI 1) hx hb dX11_hats_105 (by decide) ?_
                          refine lv_goto (tgt := 110) hx hb dX11_hats_106 (by decide) ?_
                          refine ln_eq (show (nI (1)) = (bI (decide (i &&& x0 = i) && allN (fun t => !i.testBit t || decide (s_th σ (6 * t) < 2)) (j + 1))) from by first | exact can_f1 c78 | exact can_t c78 (by first | (simp [c88]; done) | (simp [c88]; omega)) | exact can_f2 (by simp [c88]; omega)) ?_
                          refine lv_istore (lv' := [(6, .int (bI (decide (i &&& x0 = i) && allN (fun t => !i.testBit t || decide (s_th σ (6 * t) < 2)) (j + 1)))), (7, .int (nI (j))), (5, .int (nI (i))), (4, .int (oI (lwt (haP σ f0 x0) bits i))), (0, .ref (ad 0)), (1, .int (nI (f0))), (2, .int (nI (x0))), (3, .int (nI (w0)))]) hx hb dX11_hats_110 hl (by decide) rfl (fun ls hl => ?_)
                          refine ln_iinc (lv' := [(7, .int (nI (j + 1))), (6, .int (bI (decide (i &&& x0 = i) && allN (fun t => !i.testBit t || decide (s_th σ (6 * t) < 2)) (j + 1)))), (5, .int (nI (i))), (4, .int (oI (lwt (haP σ f0 x0) bits i))), (0, .ref (ad 0)), (1, .int (nI (f0))), (2, .int (nI (x0))), (3, .int (nI (w0)))]) hx hb dX11_hats_112 hl (k := 1) (n := 1) rfl (by decide) rfl (fun ls hl => ?_)
                          refine lv_goto (tgt := 67) hx hb dX11_hats_115 (by decide) ?_
                          have hl : lv_has ls 8 [(7, .int (nI (j + 1))), (6, .int (bI (decide (i &&& x0 = i) && allN (fun t => !i.testBit t || decide (s_th σ (6 * t) < 2)) (j + 1)))), (5, .int (nI (i))), (4, .int (oI (lwt (haP σ f0 x0) bits i))), (0, .ref (ad 0)), (1, .int (nI (f0))), (2, .int (nI (x0))), (3, .int (nI (w0)))] := lv_sub hl [0, 1, 2, 3, 4, 5, 6, 7] rfl
                          exact ih_lq (j + 1) ls (by omega)  hl
                        · refine lv_aload_n hx hb dX11_hats_91 rfl (lv_at hl 4 rfl) ?_
                          refine va_get (D := D) (ci := 10) (v := .ref (ad 1)) (C := RX11) (T := TX11) (N := 31) hx hb hts ni11 hown hK hP 0 (mw_c0 cy ad σ T) rfl 1 (by decide) (hts _ flX11_7) (fun _ h => h) rfl dX11_hats_92 ?_
                          refine lv_bipush (v := nI 6) hx hb dX11_hats_95 (by decide) ?_
                          refine lv_iload hx hb dX11_hats_97 (lv_at hl 0 rfl) ?_
                          refine ln_imul hx hb dX11_hats_99 ?_
                          refine ln_iald (v := (nI (s_th σ (6 * j)))) hx hb hK hP 1 (mw_c1 cy ad σ T) (by omega) (by decide) rfl dX11_hats_100 ?_
                          have hk := hw.2.2.1 j (by omega)
                          refine lv_iconst (v := nI 2) hx hb dX11_hats_101 (by decide) ?_
                          refine ln_icmp_ge (tgt := 109) hx hb dX11_hats_102 (by decide) (by omega) (by omega) (fun c102 => ?_) (fun c102 => ?_)
                          · refine lv_iconst (v := nI 0) hx hb dX11_hats_109 (by decide) ?_
                            refine ln_eq (show (nI (0)) = (bI (decide (i &&& x0 = i) && allN (fun t => !i.testBit t || decide (s_th σ (6 * t) < 2)) (j + 1))) from by first | exact can_f1 c78 | exact can_t c78 (by first | (simp [c88]; done) | (simp [c88]; omega)) | exact can_f2 (by simp [c88]; omega)) ?_
                            refine lv_istore (lv' := [(6, .int (bI (decide (i &&& x0 = i) && allN (fun t => !i.testBit t || decide (s_th σ (6 * t) < 2)) (j + 1)))), (7, .int (nI (j))), (5, .int (nI (i))), (4, .int (oI (lwt (haP σ f0 x0) bits i))), (0, .ref (ad 0)), (1, .int (nI (f0))), (2, .int (nI (x0))), (3, .int (nI (w0)))]) hx hb dX11_hats_110 hl (by decide) rfl (fun ls hl => ?_)
                            refine ln_iinc (lv' := [(7, .int (nI (j + 1))), (6, .int (bI (decide (i &&& x0 = i) && allN (fun t => !i.testBit t || decide (s_th σ (6 * t) < 2)) (j + 1)))), (5, .int (nI (i))), (4, .int (oI (lwt (haP σ f0 x0) bits i))), (0, .ref (ad 0)), (1, .int (nI (f0))), (2, .int (nI (x0))), (3, .int (nI (w0)))]) hx hb dX11_hats_112 hl (k := 1) (n := 1) rfl (by decide) rfl (fun ls hl => ?_)
                            refine lv_goto (tgt := 67) hx hb dX11_hats_115 (by decide) ?_
                            have hl : lv_has ls 8 [(7, .int (nI (j + 1))), (6, .int (bI (decide (i &&& x0 = i) && allN (fun t => !i.testBit t || decide (s_th σ (6 * t) < 2)) (j + 1)))), (5, .int (nI (i))), (4, .int (oI (lwt (haP σ f0 x0) bits i))), (0, .ref (ad 0)), (1, .int (nI (f0))), (2, .int (nI (x0))), (3, .int (nI (w0)))] := lv_sub hl [0, 1, 2, 3, 4, 5, 6, 7] rfl
                            exact ih_lq (j + 1) ls (by omega)  hl
                          · refine lv_iconst (v := nI 1) hx hb dX11_hats_105 (by decide) ?_
                            refine lv_goto (tgt := 110) hx hb dX11_hats_106 (by decide) ?_
                            refine ln_eq (show (nI (1)) = (bI (decide (i &&& x0 = i) && allN (fun t => !i.testBit t || decide (s_th σ (6 * t) < 2)) (j + 1))) from by first | exact can_f1 c78 | exact can_t c78 (by first | (simp [c88]; done) | (simp [c88]; omega)) | exact can_f2 (by simp [c88]; omega)) ?_
                            refine lv_istore (lv' := [(6, .int (bI (decide (i &&& x0 = i) && allN (fun t => !i.testBit t || decide (s_th σ (6 * t) < 2)) (j + 1)))), (7, .int (nI (j))), (5, .int (nI (i))), (4, .int (oI (lwt (haP σ f0 x0) bits i))), (0, .ref (ad 0)), (1, .int (nI (f0))), (2, .int (nI (x0))), (3, .int (nI (w0)))]) hx hb dX11_hats_110 hl (by decide) rfl (fun ls hl => ?_)
                            refine ln_iinc (lv' := [(7, .int (nI (j + 1))), (6, .int (bI (decide (i &&& x0 = i) && allN (fun t => !i.testBit t || decide (s_th σ (6 * t) < 2)) (j + 1)))), (5, .int (nI (i))), (4, .int (oI (lwt (haP σ f0 x0) bits i))), (0, .ref (ad 0)), (1, .int (nI (f0))), (2, .int (nI (x0))), (3, .int (nI (w0)))]) hx hb dX11_hats_112 hl (k := 1) (n := 1) rfl (by decide) rfl (fun ls hl => ?_)
                            refine lv_goto (tgt := 67) hx hb dX11_hats_115 (by decide) ?_
                            have hl : lv_has ls 8 [(7, .int (nI (j + 1))), (6, .int (bI (decide (i &&& x0 = i) && allN (fun t => !i.testBit t || decide (s_th σ (6 * t) < 2)) (j + 1)))), (5, .int (nI (i))), (4, .int (oI (lwt (haP σ f0 x0) bits i))), (0, .ref (ad 0)), (1, .int (nI (f0))), (2, .int (nI (x0))), (3, .int (nI (w0)))] := lv_sub hl [0, 1, 2, 3, 4, 5, 6, 7] rfl
                            exact ih_lq (j + 1) ls (by omega)  hl
                have hl : lv_has ls 8 [(7, .int (nI (0))), (6, .int (bI (decide (i &&& x0 = i) && allN (fun t => !i.testBit t || decide (s_th σ (6 * t) < 2)) 0))), (5, .int (nI (i))), (4, .int (oI (lwt (haP σ f0 x0) bits i))), (0, .ref (ad 0)), (1, .int (nI (f0))), (2, .int (nI (x0))), (3, .int (nI (w0)))] := lv_sub hl [0, 1, 2, 3, 4, 5, 6, 7] rfl
                exact lq (s_n σ - 0) 0 ls (by omega)  hl
              · refine lv_iconst (v := nI 1) hx hb dX11_hats_57 (by decide) ?_
                refine lv_goto (tgt := 62) hx hb dX11_hats_58 (by decide) ?_
                refine ln_eq (show (nI (1)) = (bI (decide (i &&& x0 = i) && allN (fun t => !i.testBit t || decide (s_th σ (6 * t) < 2)) 0)) from by first | (rw [decide_eq_true ((and_not_0 (by omega)).mp c54)]; rfl) | (rw [decide_eq_false (fun q => by rw [(and_not_0 (by omega)).mpr q] at c54; exact absurd c54 (by decide))]; rfl)) ?_
                refine lv_istore (lv' := [(6, .int (bI (decide (i &&& x0 = i) && allN (fun t => !i.testBit t || decide (s_th σ (6 * t) < 2)) 0))), (5, .int (nI (i))), (4, .int (oI (lwt (haP σ f0 x0) bits i))), (0, .ref (ad 0)), (1, .int (nI (f0))), (2, .int (nI (x0))), (3, .int (nI (w0)))]) hx hb dX11_hats_62 hl (by decide) rfl (fun ls hl => ?_)
                refine lv_iconst (v := nI 0) hx hb dX11_hats_64 (by decide) ?_
                refine lv_istore (lv' := [(7, .int (nI (0))), (6, .int (bI (decide (i &&& x0 = i) && allN (fun t => !i.testBit t || decide (s_th σ (6 * t) < 2)) 0))), (5, .int (nI (i))), (4, .int (oI (lwt (haP σ f0 x0) bits i))), (0, .ref (ad 0)), (1, .int (nI (f0))), (2, .int (nI (x0))), (3, .int (nI (w0)))]) hx hb dX11_hats_65 hl (by decide) rfl (fun ls hl => ?_)
                have lq : ∀ (k_lq j : Nat) (ls : Array Slot)  , j + k_lq = s_n σ → lv_has ls 8 [(7, .int (nI (j))), (6, .int (bI (decide (i &&& x0 = i) && allN (fun t => !i.testBit t || decide (s_th σ (6 * t) < 2)) j))), (5, .int (nI (i))), (4, .int (oI (lwt (haP σ f0 x0) bits i))), (0, .ref (ad 0)), (1, .int (nI (f0))), (2, .int (nI (x0))), (3, .int (nI (w0)))] → W p l e (headSpec qX11_hats (rq 4)).room s m ([.ref (ad 0), .int (nI (f0)), .int (nI (x0)), .int (nI (w0))] : List Value).toArray below meth c s.heap [] 0 0 (MQ below (vp_Si (fun r => r = a_hats σ (nI f0) (nI x0) (nI w0))) ([.ref (ad 0), .int (nI (f0)), .int (nI (x0)), .int (nI (w0))] : List Value).toArray s 0 0 (fun _ => False)) (F0 m 67 ls []) := by
                  intro k_lq
                  induction k_lq with
                  | zero =>
                    intro j ls hi_lq hl
                    refine lv_iload hx hb dX11_hats_67 (lv_at hl 0 rfl) ?_
                    refine lv_aload_n hx hb dX11_hats_69 rfl (lv_at hl 4 rfl) ?_
                    refine va_get (D := D) (ci := 10) (v := .int (nI (s_n σ))) (C := RX11) (T := TX11) (N := 31) hx hb hts ni11 hown hK hP 0 (mw_c0 cy ad σ T) rfl 0 (by decide) (hts _ flX11_47) (fun _ h => h) rfl dX11_hats_70 ?_
                    refine ln_icmp_ge (tgt := 118) hx hb dX11_hats_73 (by decide) (by omega) (by omega) (fun c73 => ?_) (fun c73 => ?_)
                    · rw [show j = s_n σ by omega] at hl
                      have hl : lv_has ls 8 [(6, .int (bI (hatOk σ x0 i))), (5, .int (nI (i))), (4, .int (oI (lwt (haP σ f0 x0) bits i))), (0, .ref (ad 0)), (1, .int (nI (f0))), (2, .int (nI (x0))), (3, .int (nI (w0)))] := lv_sub hl [1, 2, 3, 4, 5, 6, 7] rfl
                      refine lv_iload hx hb dX11_hats_118 (lv_at hl 0 rfl) ?_
                      refine lb_if_eq (tgt := 165) hx hb dX11_hats_120 (by decide) (fun c120 => ?_) (fun c120 => ?_)
                      · refine ln_iinc (lv' := [(5, .int (nI (i + 1))), (6, .int (bI (hatOk σ x0 i))), (4, .int (oI (lwt (haP σ f0 x0) bits i))), (0, .ref (ad 0)), (1, .int (nI (f0))), (2, .int (nI (x0))), (3, .int (nI (w0)))]) hx hb dX11_hats_165 hl (k := 1) (n := 1) rfl (by decide) rfl (fun ls hl => ?_)
                        refine lv_goto (tgt := 37) hx hb dX11_hats_168 (by decide) ?_
                        have hl : lv_has ls 8 [(5, .int (nI (i + 1))), (4, .int (oI (lwt (haP σ f0 x0) bits (i + 1)))), (0, .ref (ad 0)), (1, .int (nI (f0))), (2, .int (nI (x0))), (3, .int (nI (w0)))] := by rw [← (show (oI (lwt (haP σ f0 x0) bits i)) = (oI (lwt (haP σ f0 x0) bits (i + 1))) from by first | exact lwt_n hqb (haP_t c120 c158) | exact lwt_g hqb (haP_t c120 c158) c139 | exact lwt_f (haP_f1 c120) | exact lwt_fn hqb (haP_f2 c158) | exact lwt_fs hqb (haP_f2 c158) | exact lwt_skip hqb c139)]; exact lv_sub hl [0, 2, 3, 4, 5, 6] rfl
                        exact ih_lp (i + 1) ls (by omega)  hl
                      · rcases hqb : lwt (haP σ f0 x0) bits i with _ | b
                        · rw [hqb] at hl
                          have hl : lv_has ls 8 [(6, .int (bI (hatOk σ x0 i))), (5, .int (nI (i))), (4, .int (-1)), (0, .ref (ad 0)), (1, .int (nI (f0))), (2, .int (nI (x0))), (3, .int (nI (w0)))] := hl
                          refine lv_iload hx hb dX11_hats_123 (lv_at hl 2 rfl) ?_
                          refine lv_iconst (v := -1) hx hb dX11_hats_125 (by decide) ?_
                          refine lv_icmp_eq (tgt := 142) hx hb dX11_hats_126 (by decide) (fun _ => ?_) (fun c => absurd rfl c)
                          refine lv_aload_n hx hb dX11_hats_142 rfl (lv_at hl 3 rfl) ?_
                          refine lv_iload_n hx hb dX11_hats_143 rfl (lv_at hl 4 rfl) ?_
                          refine lv_iload_n hx hb dX11_hats_144 rfl (lv_at hl 5 rfl) ?_
                          refine lv_aload_n hx hb dX11_hats_145 rfl (lv_at hl 3 rfl) ?_
                          refine va_get (D := D) (ci := 10) (v := .int (nI (s_ov σ))) (C := RX11) (T := TX11) (N := 31) hx hb hts ni11 hown hK hP 0 (mw_c0 cy ad σ T) rfl 17 (by decide) (hts _ flX11_155) (fun _ h => h) rfl dX11_hats_146 ?_
                          refine lv_aload_n hx hb dX11_hats_149 rfl (lv_at hl 3 rfl) ?_
                          refine va_get (D := D) (ci := 10) (v := .int (nI (s_mo σ))) (C := RX11) (T := TX11) (N := 31) hx hb hts ni11 hown hK hP 0 (mw_c0 cy ad σ T) rfl 18 (by decide) (hts _ flX11_158) (fun _ h => h) rfl dX11_hats_150 ?_
                          refine lv_iload hx hb dX11_hats_153 (lv_at hl 1 rfl) ?_
                          refine cr_v (n := 5) (As := [.int (nI (f0)), .int (nI (x0)), .int (nI (s_ov σ)), .int (nI (s_mo σ)), .int (nI (i))]) (rest := []) ⟨hx, hb, hml, hown, hts⟩ (k_X11_isRight l D cy ad σ T f0 x0 (s_ov σ) (s_mo σ) i hw (by omega) (by omega) (by omega) (by omega) (by omega)) gvX11_207 (by decide +kernel) ⟨Nat.le_of_ble_eq_true rfl, Nat.le_of_ble_eq_true rfl⟩ hK hN hP 0 (mw_c0 cy ad σ T) rfl rfl hl.1 rfl (Nat.le_of_ble_eq_true rfl) dX11_hats_155 ⟨Nat.zero_le _, Nat.zero_le _⟩ ?_
                          refine lb_if_eq (tgt := 165) hx hb dX11_hats_158 (by decide) (fun c158 => ?_) (fun c158 => ?_)
                          · refine ln_iinc (lv' := [(5, .int (nI (i + 1))), (6, .int (bI (hatOk σ x0 i))), (4, .int (-1)), (0, .ref (ad 0)), (1, .int (nI (f0))), (2, .int (nI (x0))), (3, .int (nI (w0)))]) hx hb dX11_hats_165 hl (k := 1) (n := 1) rfl (by decide) rfl (fun ls hl => ?_)
                            refine lv_goto (tgt := 37) hx hb dX11_hats_168 (by decide) ?_
                            have hl : lv_has ls 8 [(5, .int (nI (i + 1))), (4, .int (oI (lwt (haP σ f0 x0) bits (i + 1)))), (0, .ref (ad 0)), (1, .int (nI (f0))), (2, .int (nI (x0))), (3, .int (nI (w0)))] := by rw [← (show (-1) = (oI (lwt (haP σ f0 x0) bits (i + 1))) from by first | exact lwt_n hqb (haP_t c120 c158) | exact lwt_g hqb (haP_t c120 c158) c139 | exact lwt_f (haP_f1 c120) | exact lwt_fn hqb (haP_f2 c158) | exact lwt_fs hqb (haP_f2 c158) | exact lwt_skip hqb c139)]; exact lv_sub hl [0, 2, 3, 4, 5, 6] rfl
                            exact ih_lp (i + 1) ls (by omega)  hl
                          · refine lv_iload hx hb dX11_hats_161 (lv_at hl 1 rfl) ?_
                            refine lv_istore (lv' := [(4, .int (nI (i))), (6, .int (bI (hatOk σ x0 i))), (5, .int (nI (i))), (0, .ref (ad 0)), (1, .int (nI (f0))), (2, .int (nI (x0))), (3, .int (nI (w0)))]) hx hb dX11_hats_163 hl (by decide) rfl (fun ls hl => ?_)
                            refine ln_iinc (lv' := [(5, .int (nI (i + 1))), (4, .int (nI (i))), (6, .int (bI (hatOk σ x0 i))), (0, .ref (ad 0)), (1, .int (nI (f0))), (2, .int (nI (x0))), (3, .int (nI (w0)))]) hx hb dX11_hats_165 hl (k := 2) (n := 1) rfl (by decide) rfl (fun ls hl => ?_)
                            refine lv_goto (tgt := 37) hx hb dX11_hats_168 (by decide) ?_
                            have hl : lv_has ls 8 [(5, .int (nI (i + 1))), (4, .int (oI (lwt (haP σ f0 x0) bits (i + 1)))), (0, .ref (ad 0)), (1, .int (nI (f0))), (2, .int (nI (x0))), (3, .int (nI (w0)))] := by rw [← (show (nI (i)) = (oI (lwt (haP σ f0 x0) bits (i + 1))) from by first | exact lwt_n hqb (haP_t c120 c158) | exact lwt_g hqb (haP_t c120 c158) c139 | exact lwt_f (haP_f1 c120) | exact lwt_fn hqb (haP_f2 c158) | exact lwt_fs hqb (haP_f2 c158) | exact lwt_skip hqb c139)]; exact lv_sub hl [0, 1, 3, 4, 5, 6] rfl
                            exact ih_lp (i + 1) ls (by omega)  hl
                        · rw [hqb] at hl
                          have hl : lv_has ls 8 [(6, .int (bI (hatOk σ x0 i))), (5, .int (nI (i))), (4, .int (nI (b))), (0, .ref (ad 0)), (1, .int (nI (f0))), (2, .int (nI (x0))), (3, .int (nI (w0)))] := hl
                          have hltb := lwt_lt hqb
                          refine lv_iload hx hb dX11_hats_123 (lv_at hl 2 rfl) ?_
                          refine lv_iconst (v := -1) hx hb dX11_hats_125 (by decide) ?_
                          refine lv_icmp_eq (tgt := 142) hx hb dX11_hats_126 (by decide) (fun c => absurd c (m1_ne _ (by omega))) (fun _ => ?_)
                          have hb1 := bits_le i
                          have hb2 := bits_le b
                          refine lv_iload hx hb dX11_hats_129 (lv_at hl 1 rfl) ?_
                          refine cr_s (n := 1) (As := [.int (nI (i))]) (rest := []) ⟨hx, hb, hml, hown, hts⟩ (k_X11_bits l i (by omega)) gsX11_195 (by decide +kernel) ⟨Nat.le_of_ble_eq_true rfl, Nat.le_of_ble_eq_true rfl⟩ rfl hl.1 rfl (Nat.le_of_ble_eq_true rfl) dX11_hats_131 ⟨Nat.zero_le _, Nat.zero_le _⟩ ?_
                          refine lv_iload hx hb dX11_hats_134 (lv_at hl 2 rfl) ?_
                          refine cr_s (n := 1) (As := [.int (nI (b))]) (rest := [.int (nI (bits i))]) ⟨hx, hb, hml, hown, hts⟩ (k_X11_bits l b (by omega)) gsX11_195 (by decide +kernel) ⟨Nat.le_of_ble_eq_true rfl, Nat.le_of_ble_eq_true rfl⟩ rfl hl.1 rfl (Nat.le_of_ble_eq_true rfl) dX11_hats_136 ⟨Nat.zero_le _, Nat.zero_le _⟩ ?_
                          refine ln_icmp_ge (tgt := 165) hx hb dX11_hats_139 (by decide) (by omega) (by omega) (fun c139 => ?_) (fun c139 => ?_)
                          · refine ln_iinc (lv' := [(5, .int (nI (i + 1))), (6, .int (bI (hatOk σ x0 i))), (4, .int (nI (b))), (0, .ref (ad 0)), (1, .int (nI (f0))), (2, .int (nI (x0))), (3, .int (nI (w0)))]) hx hb dX11_hats_165 hl (k := 1) (n := 1) rfl (by decide) rfl (fun ls hl => ?_)
                            refine lv_goto (tgt := 37) hx hb dX11_hats_168 (by decide) ?_
                            have hl : lv_has ls 8 [(5, .int (nI (i + 1))), (4, .int (oI (lwt (haP σ f0 x0) bits (i + 1)))), (0, .ref (ad 0)), (1, .int (nI (f0))), (2, .int (nI (x0))), (3, .int (nI (w0)))] := by rw [← (show (nI (b)) = (oI (lwt (haP σ f0 x0) bits (i + 1))) from by first | exact lwt_n hqb (haP_t c120 c158) | exact lwt_g hqb (haP_t c120 c158) c139 | exact lwt_f (haP_f1 c120) | exact lwt_fn hqb (haP_f2 c158) | exact lwt_fs hqb (haP_f2 c158) | exact lwt_skip hqb c139)]; exact lv_sub hl [0, 2, 3, 4, 5, 6] rfl
                            exact ih_lp (i + 1) ls (by omega)  hl
                          · refine lv_aload_n hx hb dX11_hats_142 rfl (lv_at hl 3 rfl) ?_
                            refine lv_iload_n hx hb dX11_hats_143 rfl (lv_at hl 4 rfl) ?_
                            refine lv_iload_n hx hb dX11_hats_144 rfl (lv_at hl 5 rfl) ?_
                            refine lv_aload_n hx hb dX11_hats_145 rfl (lv_at hl 3 rfl) ?_
                            refine va_get (D := D) (ci := 10) (v := .int (nI (s_ov σ))) (C := RX11) (T := TX11) (N := 31) hx hb hts ni11 hown hK hP 0 (mw_c0 cy ad σ T) rfl 17 (by decide) (hts _ flX11_155) (fun _ h => h) rfl dX11_hats_146 ?_
                            refine lv_aload_n hx hb dX11_hats_149 rfl (lv_at hl 3 rfl) ?_
                            refine va_get (D := D) (ci := 10) (v := .int (nI (s_mo σ))) (C := RX11) (T := TX11) (N := 31) hx hb hts ni11 hown hK hP 0 (mw_c0 cy ad σ T) rfl 18 (by decide) (hts _ flX11_158) (fun _ h => h) rfl dX11_hats_150 ?_
                            refine lv_iload hx hb dX11_hats_153 (lv_at hl 1 rfl) ?_
                            refine cr_v (n := 5) (As := [.int (nI (f0)), .int (nI (x0)), .int (nI (s_ov σ)), .int (nI (s_mo σ)), .int (nI (i))]) (rest := []) ⟨hx, hb, hml, hown, hts⟩ (k_X11_isRight l D cy ad σ T f0 x0 (s_ov σ) (s_mo σ) i hw (by omega) (by omega) (by omega) (by omega) (by omega)) gvX11_207 (by decide +kernel) ⟨Nat.le_of_ble_eq_true rfl, Nat.le_of_ble_eq_true rfl⟩ hK hN hP 0 (mw_c0 cy ad σ T) rfl rfl hl.1 rfl (Nat.le_of_ble_eq_true rfl) dX11_hats_155 ⟨Nat.zero_le _, Nat.zero_le _⟩ ?_
                            refine lb_if_eq (tgt := 165) hx hb dX11_hats_158 (by decide) (fun c158 => ?_) (fun c158 => ?_)
                            · refine ln_iinc (lv' := [(5, .int (nI (i + 1))), (6, .int (bI (hatOk σ x0 i))), (4, .int (nI (b))), (0, .ref (ad 0)), (1, .int (nI (f0))), (2, .int (nI (x0))), (3, .int (nI (w0)))]) hx hb dX11_hats_165 hl (k := 1) (n := 1) rfl (by decide) rfl (fun ls hl => ?_)
                              refine lv_goto (tgt := 37) hx hb dX11_hats_168 (by decide) ?_
                              have hl : lv_has ls 8 [(5, .int (nI (i + 1))), (4, .int (oI (lwt (haP σ f0 x0) bits (i + 1)))), (0, .ref (ad 0)), (1, .int (nI (f0))), (2, .int (nI (x0))), (3, .int (nI (w0)))] := by rw [← (show (nI (b)) = (oI (lwt (haP σ f0 x0) bits (i + 1))) from by first | exact lwt_n hqb (haP_t c120 c158) | exact lwt_g hqb (haP_t c120 c158) c139 | exact lwt_f (haP_f1 c120) | exact lwt_fn hqb (haP_f2 c158) | exact lwt_fs hqb (haP_f2 c158) | exact lwt_skip hqb c139)]; exact lv_sub hl [0, 2, 3, 4, 5, 6] rfl
                              exact ih_lp (i + 1) ls (by omega)  hl
                            · refine lv_iload hx hb dX11_hats_161 (lv_at hl 1 rfl) ?_
                              refine lv_istore (lv' := [(4, .int (nI (i))), (6, .int (bI (hatOk σ x0 i))), (5, .int (nI (i))), (0, .ref (ad 0)), (1, .int (nI (f0))), (2, .int (nI (x0))), (3, .int (nI (w0)))]) hx hb dX11_hats_163 hl (by decide) rfl (fun ls hl => ?_)
                              refine ln_iinc (lv' := [(5, .int (nI (i + 1))), (4, .int (nI (i))), (6, .int (bI (hatOk σ x0 i))), (0, .ref (ad 0)), (1, .int (nI (f0))), (2, .int (nI (x0))), (3, .int (nI (w0)))]) hx hb dX11_hats_165 hl (k := 2) (n := 1) rfl (by decide) rfl (fun ls hl => ?_)
                              refine lv_goto (tgt := 37) hx hb dX11_hats_168 (by decide) ?_
                              have hl : lv_has ls 8 [(5, .int (nI (i + 1))), (4, .int (oI (lwt (haP σ f0 x0) bits (i + 1)))), (0, .ref (ad 0)), (1, .int (nI (f0))), (2, .int (nI (x0))), (3, .int (nI (w0)))] := by rw [← (show (nI (i)) = (oI (lwt (haP σ f0 x0) bits (i + 1))) from by first | exact lwt_n hqb (haP_t c120 c158) | exact lwt_g hqb (haP_t c120 c158) c139 | exact lwt_f (haP_f1 c120) | exact lwt_fn hqb (haP_f2 c158) | exact lwt_fs hqb (haP_f2 c158) | exact lwt_skip hqb c139)]; exact lv_sub hl [0, 1, 3, 4, 5, 6] rfl
                              exact ih_lp (i + 1) ls (by omega)  hl
                    · exact absurd c73 (by omega)
                  | succ k_lq ih_lq =>
                    intro j ls hi_lq hl
                    refine lv_iload hx hb dX11_hats_67 (lv_at hl 0 rfl) ?_
                    refine lv_aload_n hx hb dX11_hats_69 rfl (lv_at hl 4 rfl) ?_
                    refine va_get (D := D) (ci := 10) (v := .int (nI (s_n σ))) (C := RX11) (T := TX11) (N := 31) hx hb hts ni11 hown hK hP 0 (mw_c0 cy ad σ T) rfl 0 (by decide) (hts _ flX11_47) (fun _ h => h) rfl dX11_hats_70 ?_
                    refine ln_icmp_ge (tgt := 118) hx hb dX11_hats_73 (by decide) (by omega) (by omega) (fun c73 => ?_) (fun c73 => ?_)
                    · exact absurd c73 (by omega)
                    · refine lv_iload hx hb dX11_hats_76 (lv_at hl 1 rfl) ?_
                      refine lb_if_eq (tgt := 109) hx hb dX11_hats_78 (by decide) (fun c78 => ?_) (fun c78 => ?_)
                      · refine lv_iconst (v := nI 0) hx hb dX11_hats_109 (by decide) ?_
                        refine ln_eq (show (nI (0)) = (bI (decide (i &&& x0 = i) && allN (fun t => !i.testBit t || decide (s_th σ (6 * t) < 2)) (j + 1))) from by first | exact can_f1 c78 | exact can_t c78 (by first | (simp [c88]; done) | (simp [c88]; omega)) | exact can_f2 (by simp [c88]; omega)) ?_
                        refine lv_istore (lv' := [(6, .int (bI (decide (i &&& x0 = i) && allN (fun t => !i.testBit t || decide (s_th σ (6 * t) < 2)) (j + 1)))), (7, .int (nI (j))), (5, .int (nI (i))), (4, .int (oI (lwt (haP σ f0 x0) bits i))), (0, .ref (ad 0)), (1, .int (nI (f0))), (2, .int (nI (x0))), (3, .int (nI (w0)))]) hx hb dX11_hats_110 hl (by decide) rfl (fun ls hl => ?_)
                        refine ln_iinc (lv' := [(7, .int (nI (j + 1))), (6, .int (bI (decide (i &&& x0 = i) && allN (fun t => !i.testBit t || decide (s_th σ (6 * t) < 2)) (j + 1)))), (5, .int (nI (i))), (4, .int (oI (lwt (haP σ f0 x0) bits i))), (0, .ref (ad 0)), (1, .int (nI (f0))), (2, .int (nI (x0))), (3, .int (nI (w0)))]) hx hb dX11_hats_112 hl (k := 1) (n := 1) rfl (by decide) rfl (fun ls hl => ?_)
                        refine lv_goto (tgt := 67) hx hb dX11_hats_115 (by decide) ?_
                        have hl : lv_has ls 8 [(7, .int (nI (j + 1))), (6, .int (bI (decide (i &&& x0 = i) && allN (fun t => !i.testBit t || decide (s_th σ (6 * t) < 2)) (j + 1)))), (5, .int (nI (i))), (4, .int (oI (lwt (haP σ f0 x0) bits i))), (0, .ref (ad 0)), (1, .int (nI (f0))), (2, .int (nI (x0))), (3, .int (nI (w0)))] := lv_sub hl [0, 1, 2, 3, 4, 5, 6, 7] rfl
                        exact ih_lq (j + 1) ls (by omega)  hl
                      · refine lv_iload hx hb dX11_hats_81 (lv_at hl 2 rfl) ?_
                        refine lv_iload hx hb dX11_hats_83 (lv_at hl 0 rfl) ?_
                        refine cr_s (n := 2) (As := [.int (nI (i)), .int (nI (j))]) (rest := []) ⟨hx, hb, hml, hown, hts⟩ (k_X11_has l i j (by omega) (by omega)) gsX11_173 (by decide +kernel) ⟨Nat.le_of_ble_eq_true rfl, Nat.le_of_ble_eq_true rfl⟩ rfl hl.1 rfl (Nat.le_of_ble_eq_true rfl) dX11_hats_85 ⟨Nat.zero_le _, Nat.zero_le _⟩ ?_
                        refine lb_if_eq (tgt := 105) hx hb dX11_hats_88 (by decide) (fun c88 => ?_) (fun c88 => ?_)
                        · refine lv_iconst (v := nI 1) hx hb dX11_hats_105 (by decide) ?_
                          refine lv_goto (tgt := 110) hx hb dX11_hats_106 (by decide) ?_
                          refine ln_eq (show (nI (1)) = (bI (decide (i &&& x0 = i) && allN (fun t => !i.testBit t || decide (s_th σ (6 * t) < 2)) (j + 1))) from by first | exact can_f1 c78 | exact can_t c78 (by first | (simp [c88]; done) | (simp [c88]; omega)) | exact can_f2 (by simp [c88]; omega)) ?_
                          refine lv_istore (lv' := [(6, .int (bI (decide (i &&& x0 = i) && allN (fun t => !i.testBit t || decide (s_th σ (6 * t) < 2)) (j + 1)))), (7, .int (nI (j))), (5, .int (nI (i))), (4, .int (oI (lwt (haP σ f0 x0) bits i))), (0, .ref (ad 0)), (1, .int (nI (f0))), (2, .int (nI (x0))), (3, .int (nI (w0)))]) hx hb dX11_hats_110 hl (by decide) rfl (fun ls hl => ?_)
                          refine ln_iinc (lv' := [(7, .int (nI (j + 1))), (6, .int (bI (decide (i &&& x0 = i) && allN (fun t => !i.testBit t || decide (s_th σ (6 * t) < 2)) (j + 1)))), (5, .int (nI (i))), (4, .int (oI (lwt (haP σ f0 x0) bits i))), (0, .ref (ad 0)), (1, .int (nI (f0))), (2, .int (nI (x0))), (3, .int (nI (w0)))]) hx hb dX11_hats_112 hl (k := 1) (n := 1) rfl (by decide) rfl (fun ls hl => ?_)
                          refine lv_goto (tgt := 67) hx hb dX11_hats_115 (by decide) ?_
                          have hl : lv_has ls 8 [(7, .int (nI (j + 1))), (6, .int (bI (decide (i &&& x0 = i) && allN (fun t => !i.testBit t || decide (s_th σ (6 * t) < 2)) (j + 1)))), (5, .int (nI (i))), (4, .int (oI (lwt (haP σ f0 x0) bits i))), (0, .ref (ad 0)), (1, .int (nI (f0))), (2, .int (nI (x0))), (3, .int (nI (w0)))] := lv_sub hl [0, 1, 2, 3, 4, 5, 6, 7] rfl
                          exact ih_lq (j + 1) ls (by omega)  hl
                        · refine lv_aload_n hx hb dX11_hats_91 rfl (lv_at hl 4 rfl) ?_
                          refine va_get (D := D) (ci := 10) (v := .ref (ad 1)) (C := RX11) (T := TX11) (N := 31) hx hb hts ni11 hown hK hP 0 (mw_c0 cy ad σ T) rfl 1 (by decide) (hts _ flX11_7) (fun _ h => h) rfl dX11_hats_92 ?_
                          refine lv_bipush (v := nI 6) hx hb dX11_hats_95 (by decide) ?_
                          refine lv_iload hx hb dX11_hats_97 (lv_at hl 0 rfl) ?_
                          refine ln_imul hx hb dX11_hats_99 ?_
                          refine ln_iald (v := (nI (s_th σ (6 * j)))) hx hb hK hP 1 (mw_c1 cy ad σ T) (by omega) (by decide) rfl dX11_hats_100 ?_
                          have hk := hw.2.2.1 j (by omega)
                          refine lv_iconst (v := nI 2) hx hb dX11_hats_101 (by decide) ?_
                          refine ln_icmp_ge (tgt := 109) hx hb dX11_hats_102 (by decide) (by omega) (by omega) (fun c102 => ?_) (fun c102 => ?_)
                          · refine lv_iconst (v := nI 0) hx hb dX11_hats_109 (by decide) ?_
                            refine ln_eq (show (nI (0)) = (bI (decide (i &&& x0 = i) && allN (fun t => !i.testBit t || decide (s_th σ (6 * t) < 2)) (j + 1))) from by first | exact can_f1 c78 | exact can_t c78 (by first | (simp [c88]; done) | (simp [c88]; omega)) | exact can_f2 (by simp [c88]; omega)) ?_
                            refine lv_istore (lv' := [(6, .int (bI (decide (i &&& x0 = i) && allN (fun t => !i.testBit t || decide (s_th σ (6 * t) < 2)) (j + 1)))), (7, .int (nI (j))), (5, .int (nI (i))), (4, .int (oI (lwt (haP σ f0 x0) bits i))), (0, .ref (ad 0)), (1, .int (nI (f0))), (2, .int (nI (x0))), (3, .int (nI (w0)))]) hx hb dX11_hats_110 hl (by decide) rfl (fun ls hl => ?_)
                            refine ln_iinc (lv' := [(7, .int (nI (j + 1))), (6, .int (bI (decide (i &&& x0 = i) && allN (fun t => !i.testBit t || decide (s_th σ (6 * t) < 2)) (j + 1)))), (5, .int (nI (i))), (4, .int (oI (lwt (haP σ f0 x0) bits i))), (0, .ref (ad 0)), (1, .int (nI (f0))), (2, .int (nI (x0))), (3, .int (nI (w0)))]) hx hb dX11_hats_112 hl (k := 1) (n := 1) rfl (by decide) rfl (fun ls hl => ?_)
                            refine lv_goto (tgt := 67) hx hb dX11_hats_115 (by decide) ?_
                            have hl : lv_has ls 8 [(7, .int (nI (j + 1))), (6, .int (bI (decide (i &&& x0 = i) && allN (fun t => !i.testBit t || decide (s_th σ (6 * t) < 2)) (j + 1)))), (5, .int (nI (i))), (4, .int (oI (lwt (haP σ f0 x0) bits i))), (0, .ref (ad 0)), (1, .int (nI (f0))), (2, .int (nI (x0))), (3, .int (nI (w0)))] := lv_sub hl [0, 1, 2, 3, 4, 5, 6, 7] rfl
                            exact ih_lq (j + 1) ls (by omega)  hl
                          · refine lv_iconst (v := nI 1) hx hb dX11_hats_105 (by decide) ?_
                            refine lv_goto (tgt := 110) hx hb dX11_hats_106 (by decide) ?_
                            refine ln_eq (show (nI (1)) = (bI (decide (i &&& x0 = i) && allN (fun t => !i.testBit t || decide (s_th σ (6 * t) < 2)) (j + 1))) from by first | exact can_f1 c78 | exact can_t c78 (by first | (simp [c88]; done) | (simp [c88]; omega)) | exact can_f2 (by simp [c88]; omega)) ?_
                            refine lv_istore (lv' := [(6, .int (bI (decide (i &&& x0 = i) && allN (fun t => !i.testBit t || decide (s_th σ (6 * t) < 2)) (j + 1)))), (7, .int (nI (j))), (5, .int (nI (i))), (4, .int (oI (lwt (haP σ f0 x0) bits i))), (0, .ref (ad 0)), (1, .int (nI (f0))), (2, .int (nI (x0))), (3, .int (nI (w0)))]) hx hb dX11_hats_110 hl (by decide) rfl (fun ls hl => ?_)
                            refine ln_iinc (lv' := [(7, .int (nI (j + 1))), (6, .int (bI (decide (i &&& x0 = i) && allN (fun t => !i.testBit t || decide (s_th σ (6 * t) < 2)) (j + 1)))), (5, .int (nI (i))), (4, .int (oI (lwt (haP σ f0 x0) bits i))), (0, .ref (ad 0)), (1, .int (nI (f0))), (2, .int (nI (x0))), (3, .int (nI (w0)))]) hx hb dX11_hats_112 hl (k := 1) (n := 1) rfl (by decide) rfl (fun ls hl => ?_)
                            refine lv_goto (tgt := 67) hx hb dX11_hats_115 (by decide) ?_
                            have hl : lv_has ls 8 [(7, .int (nI (j + 1))), (6, .int (bI (decide (i &&& x0 = i) && allN (fun t => !i.testBit t || decide (s_th σ (6 * t) < 2)) (j + 1)))), (5, .int (nI (i))), (4, .int (oI (lwt (haP σ f0 x0) bits i))), (0, .ref (ad 0)), (1, .int (nI (f0))), (2, .int (nI (x0))), (3, .int (nI (w0)))] := lv_sub hl [0, 1, 2, 3, 4, 5, 6, 7] rfl
                            exact ih_lq (j + 1) ls (by omega)  hl
                have hl : lv_has ls 8 [(7, .int (nI (0))), (6, .int (bI (decide (i &&& x0 = i) && allN (fun t => !i.testBit t || decide (s_th σ (6 * t) < 2)) 0))), (5, .int (nI (i))), (4, .int (oI (lwt (haP σ f0 x0) bits i))), (0, .ref (ad 0)), (1, .int (nI (f0))), (2, .int (nI (x0))), (3, .int (nI (w0)))] := lv_sub hl [0, 1, 2, 3, 4, 5, 6, 7] rfl
                exact lq (s_n σ - 0) 0 ls (by omega)  hl
        have hl : lv_has ls 8 [(5, .int (nI (0))), (4, .int (oI (lwt (haP σ f0 x0) bits 0))), (0, .ref (ad 0)), (1, .int (nI (f0))), (2, .int (nI (x0))), (3, .int (nI (w0)))] := lv_sub hl [0, 1, 2, 3, 4, 5] rfl
        exact lp (2 ^ s_n σ - 0) 0 ls (by omega)  hl
      · refine lv_bipush (v := -3) hx hb dX11_hats_28 (by decide) ?_
        exact rt_i hx hb hr hlocks (by rw [a_hats, c5, c13, ix2 c25]; rfl) dX11_hats_30
    · refine lv_bipush (v := -2) hx hb dX11_hats_16 (by decide) ?_
      exact rt_i hx hb hr hlocks (by first | (rw [a_hats, c5]; rfl; done) | (rw [a_hats, c5, c13]; rfl)) dX11_hats_18
