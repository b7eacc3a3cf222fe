section LL
variable {p : Program} {l : Launch} {e : Env} {R : Room} {s : State} {m : MethodId} {args : Array Value} {below : List Frame} {meth : Method} {c : Code} {H : Heap} {locs : List Loc} {cells slots : Nat} {Q : State → Prop} {pc : Nat} {ls : Array Slot} {rest : List Value}
theorem ll_eq {v w : Int64} (h : v = w) (k : W p l e R s m args below meth c H locs cells slots Q (F0 m pc ls (.long w :: rest))) : W p l e R s m args below meth c H locs cells slots Q (F0 m pc ls (.long v :: rest)) := by rw [h]; exact k
end LL
theorem cd_step {tx : Nat → Nat} {b k : Nat} (h : ∀ i, i < k → qL (tx (b + i)) = true) (hk : k < 9) (hq : qL (tx (b + k)) = true) (hc : tx (b + k) < 256) : (27 : Int64) * cdI tx b k + (nI (tx (b + k))).toInt64 - 96 = cdI tx b (k + 1) := by
  have h1 := cdN_lt h
  have h2 : 27 ^ k ≤ 27 ^ 8 := Nat.pow_le_pow_right (by decide) (by omega)
  have h3 := of_decide_eq_true hq
  have e1 : (27 : Int64) = lN 27 := rfl
  have e2 : (96 : Int64) = lN 96 := rfl
  rw [cdI, if_pos (by omega), cdI, if_pos (by omega), nI_l (by omega), e1, e2, lN_mul, lN_add, lN_sub (by omega), cdN]
  congr 1
  omega
theorem cd_over {tx : Nat → Nat} {b k : Nat} (hk : ¬ k < 9) : (-4 : Int64) = cdI tx b (k + 1) := by rw [cdI, if_neg (by omega)]
theorem m_eta5 (T : Ms) : mu_nu (mu_dg (mu_tk (mu_ta (mu_po T (m_po T)) (m_ta T)) (m_tk T)) (m_dg T)) (m_nu T) = T := rfl
/-- what a token leaves of the reference's scratch -/
def SR (T u : Ms) : Prop := m_rm u = m_rm T ∧ m_rt u = m_rt T ∧ m_rf u = m_rf T ∧ m_rk u = m_rk T ∧ m_rd u = m_rd T
def tokP (σ : Sg) (o : Nat) (T u : Ms) : Prop := m_po u = nI (tE σ o) ∧ m_ta u = nI (tB σ o) ∧ m_tk u = tC σ o ∧ m_nu u = nI (tN σ o) ∧ SR T u
theorem lg_cmp_0 (x y : Int64) : lg_cmp x y = 0 ↔ x = y := by
  unfold lg_cmp
  split
  · rename_i h
    exact ⟨fun q => absurd q (by decide), fun q => by subst q; exact absurd h Int64.lt_irrefl⟩
  · split
    · rename_i h; exact ⟨fun _ => h, fun _ => rfl⟩
    · rename_i h; exact ⟨fun q => absurd q (by decide), fun q => absurd q h⟩
theorem rn_s {tx : Nat → Nat} {ln : Nat} {q : Nat → Bool} {k p b : Nat} (h : rn tx ln q (k + 1) p = b) (h1 : p < ln) (h2 : q (tx p) = true) : rn tx ln q k (p + 1) = b := by rw [← h, rn, if_pos ⟨h1, h2⟩]
theorem rn_n {tx : Nat → Nat} {ln : Nat} {q : Nat → Bool} : ∀ {k p b : Nat}, rn tx ln q k p = b → q (tx p) = false → p = b
  | 0, p, b, h, _ => h
  | k + 1, p, b, h, h2 => by rw [← h, rn, if_neg (fun q => by rw [h2] at q; exact absurd q.2 (by decide))]
theorem rn_e {tx : Nat → Nat} {ln : Nat} {q : Nat → Bool} : ∀ {k p b : Nat}, rn tx ln q k p = b → ln ≤ p → p = b
  | 0, p, b, h, _ => h
  | k + 1, p, b, h, h2 => by rw [← h, rn, if_neg (by omega)]
theorem all_s {tx : Nat → Nat} {q : Nat → Bool} {b p : Nat} (hb : b ≤ p) (h : ∀ i, i < p - b → q (tx (b + i)) = true) (h2 : q (tx p) = true) : ∀ i, i < p + 1 - b → q (tx (b + i)) = true := fun i hi => by
  rcases (show i < p - b ∨ i = p - b by omega) with r | rfl
  · exact h i r
  · rw [show b + (p - b) = p by omega]; exact h2
theorem cd_stepq {tx : Nat → Nat} {b q : Nat} (hb : b ≤ q) (h : ∀ i, i < q - b → qL (tx (b + i)) = true) (hk : q - b < 9) (hq : qL (tx q) = true) (hc : tx q < 256) : (27 : Int64) * cdI tx b (q - b) + (nI (tx q)).toInt64 - 96 = cdI tx b (q + 1 - b) := by
  have h1 := cd_step (tx := tx) (b := b) (k := q - b) h hk (by rw [show b + (q - b) = q by omega]; exact hq) (by rw [show b + (q - b) = q by omega]; exact hc)
  rw [show b + (q - b) = q by omega, show q - b + 1 = q + 1 - b by omega] at h1
  exact h1
theorem cd_overq {tx : Nat → Nat} {b q : Nat} (hb : b ≤ q) (hk : 9 ≤ q - b) : (-4 : Int64) = cdI tx b (q + 1 - b) := by rw [cdI, if_neg (by omega)]
theorem nm_stepq {tx : Nat → Nat} {b q : Nat} (hb : b ≤ q) (hk : q - b < 3) (hq : qD (tx q) = true) : 10 * nmN tx b (q - b) + tx q - 48 = nmN tx b (q + 1 - b) := by
  have h2 := of_decide_eq_true hq
  rw [show q + 1 - b = q - b + 1 by omega, nmN, if_pos hk, show b + (q - b) = q by omega]
  omega
theorem nm_overq {tx : Nat → Nat} {b q : Nat} (hb : b ≤ q) (hk : 3 ≤ q - b) : nmN tx b (q - b) = nmN tx b (q + 1 - b) := by
  rw [show q + 1 - b = q - b + 1 by omega, nmN, if_neg (by omega)]
theorem tok_end {σ : Sg} {o : Nat} (h : tB σ o = s_ln σ) : tE σ o = tB σ o ∧ tC σ o = -2 ∧ tN σ o = 0 := by
  have hk : tK σ o = 3 := by rw [tK, if_pos h]
  exact ⟨by rw [tE, if_pos h], by rw [tC, if_pos hk], by rw [tN, if_neg (by omega)]⟩
theorem tok_L {σ : Sg} {o : Nat} (h : ¬ tB σ o = s_ln σ) (hq : qL (s_tx σ (tB σ o)) = true) : tE σ o = tLe σ (tB σ o) ∧ tC σ o = cdI (s_tx σ) (tB σ o) (tLe σ (tB σ o) - tB σ o) ∧ tN σ o = 0 := by
  have hk : tK σ o = 0 := by rw [tK, if_neg h, if_pos hq]
  have he : tE σ o = tLe σ (tB σ o) := by rw [tE, if_neg h, if_pos hq]
  exact ⟨he, by rw [tC, if_neg (by omega), if_pos hk, he], by rw [tN, if_neg (by omega)]⟩
theorem tok_D {σ : Sg} {o : Nat} (h : ¬ tB σ o = s_ln σ) (hq : qL (s_tx σ (tB σ o)) = false) (hd : qD (s_tx σ (tB σ o)) = true) : tE σ o = tDe σ (tB σ o) ∧ tC σ o = (if 3 < tDe σ (tB σ o) - tB σ o then -4 else -1) ∧ tN σ o = nmN (s_tx σ) (tB σ o) (tDe σ (tB σ o) - tB σ o) := by
  have hk : tK σ o = 1 := by rw [tK, if_neg h, hq, hd]; rfl
  have he : tE σ o = tDe σ (tB σ o) := by rw [tE, if_neg h, hq, hd]; rfl
  exact ⟨he, by rw [tC, if_neg (by omega), if_neg (by omega), if_pos hk, he], by rw [tN, if_pos hk, he]⟩
theorem tok_O {σ : Sg} {o : Nat} (h : ¬ tB σ o = s_ln σ) (hq : qL (s_tx σ (tB σ o)) = false) (hd : qD (s_tx σ (tB σ o)) = false) : tE σ o = tB σ o + 1 ∧ tC σ o = (if s_tx σ (tB σ o) = 59 then -3 else -4) ∧ tN σ o = 0 := by
  have hk : tK σ o = 2 := by rw [tK, if_neg h, hq, hd]; rfl
  exact ⟨by rw [tE, if_neg h, hq, hd]; rfl, by rw [tC, if_neg (by omega), if_neg (by omega), if_neg (by omega)], by rw [tN, if_neg (by omega)]⟩
set_option maxHeartbeats 4000000 in
set_option maxRecDepth 100000 in
theorem k_X11_nextToken (l : Launch) (D : va_G) (cy : Nat → ClassId) (ad : Nat → Nat) (σ : Sg) (T : Ms) (o : Nat) (hw : wfS σ) (hpo : m_po T = nI o) (hp : o ≤ s_ln σ) : MV l yX11_nextToken qX11_nextToken 2 [.ref (ad 0)] D cy (mw cy ad σ T) (fun u : Ms => tokP σ o T u) (fun u : Ms => mw cy ad σ u) := by
  intro sz
  refine Met.ofW (cc := cX11_nextToken) (maxL := 1) (ret := none) (by decide) rfl ?_
  intro p e s m args below meth c s₁ B hml hv
  obtain ⟨rfl, rfl, hP, hK, hN, hD0⟩ := hv
  have hx := B.exec
  have hb := B.bytes
  have hr := B.returns
  have hlocks := B.notSynchronized
  have hts : ∀ cq ∈ tg, cq.before ([.ref (ad 0)] : List Value).toArray s = true := fun cq h => atoms_spec (ws := qX11_nextToken) B.pre cq (List.mem_cons_of_mem _ h)
  have hown : s.vm.findClass RX11 = some m.cls := findClass_of_methodNamed B.named
  have hD := hD0.self (sz := s.heap.size)
  generalize hAe : va_A (mw cy ad σ T) s.heap.size = A at hD ⊢
  have hA : ∀ q : Nat, s.heap.size ≤ q → A q := fun q h => by rw [← hAe]; exact Or.inr h
  have hS : va_S A s.heap s.heap [] := va_S.rf
  have hl := lv_entry ([.ref (ad 0)]) (n := 1) (Nat.le_of_ble_eq_true rfl)
  rw [lg_entry_eq]
  generalize (lg_sl ([.ref (ad 0)]) ++ List.replicate (1 - (lg_sl ([.ref (ad 0)])).length) Slot.unset).toArray = ls at hl ⊢
  have hl : lv_has ls 1 [(0, .ref (ad 0))] := hl
  have hln := hw.2.2.2.2.1
  have htx := hw.2.2.2.2.2.1
  have hbl := tB_le hp
  have htb := htx (tB σ o)
  have hl1 : tB σ o ≤ tLe σ (tB σ o) ∧ tLe σ (tB σ o) ≤ s_ln σ := ⟨rn_ge, rn_le hbl⟩
  have hl2 : tB σ o ≤ tDe σ (tB σ o) ∧ tDe σ (tB σ o) ≤ s_ln σ := ⟨rn_ge, rn_le hbl⟩
  have h0 : T = (mu_nu (mu_dg (mu_tk (mu_ta (mu_po T (nI o)) (m_ta T)) (m_tk T)) (m_dg T)) (m_nu T)) := by rw [← hpo]; exact (m_eta5 T).symm
  rw [h0] at hP hD
  have hmain : ∀ (H : Heap) (locs : List Loc), va_P D vwCl (mw cy ad σ (mu_nu (mu_dg (mu_tk (mu_ta (mu_po T (nI (tB σ o))) (m_ta T)) (m_tk T)) (m_dg T)) (m_nu T))) H → va_D A (mw cy ad σ (mu_nu (mu_dg (mu_tk (mu_ta (mu_po T (nI (tB σ o))) (m_ta T)) (m_tk T)) (m_dg T)) (m_nu T))) → va_S A s.heap H locs → W p l e (headSpec qX11_nextToken (rq 2)).room s m ([.ref (ad 0)] : List Value).toArray below meth c H locs 0 0 (MQ below (va_Qv (fun u : Ms => tokP σ o T u) (fun u t => va_P D vwCl ((fun u : Ms => mw cy ad σ u) u) t.heap) A) ([.ref (ad 0)] : List Value).toArray s 0 0 A) (F0 m 38 ls []) := by
    intro H locs hP hD hS
    refine lv_aload_n hx hb dX11_nextToken_38 rfl (lv_at hl 0 rfl) ?_
    refine lv_aload_n hx hb dX11_nextToken_39 rfl (lv_at hl 0 rfl) ?_
    refine va_get (D := D) (ci := 10) (v := .int (nI (tB σ o))) (C := RX11) (T := TX11) (N := 31) hx hb hts ni11 hown hK hP 0 (mw_c0 cy ad σ (mu_nu (mu_dg (mu_tk (mu_ta (mu_po T (nI (tB σ o))) (m_ta T)) (m_tk T)) (m_dg T)) (m_nu T))) rfl 6 (by decide) (hts _ flX11_63) (fun _ h => h) rfl dX11_nextToken_40 ?_
    refine ln_put (ci := 10) (C := RX11) (T := TX11) (N := 31) (ty := .int) (v := .int (nI (tB σ o))) hx hb hts ni11 tyX11 tyX11_ok nmX11 hown hK hP hD hS 0 (mw_c0 cy ad σ (mu_nu (mu_dg (mu_tk (mu_ta (mu_po T (nI (tB σ o))) (m_ta T)) (m_tk T)) (m_dg T)) (m_nu T))) rfl 7 (by decide) (hts _ flX11_66) (fun _ h => h) rfl (by decide +kernel) rfl rfl (Nat.le_of_ble_eq_true rfl) ((mp_0_7 cy ad σ (mu_nu (mu_dg (mu_tk (mu_ta (mu_po T (nI (tB σ o))) (m_ta T)) (m_tk T)) (m_dg T)) (m_nu T)) (nI (tB σ o))).trans (congrArg (fun z => mw cy ad σ z) (by rw [mx_ta_nu, mx_ta_dg, mx_ta_tk, mc_ta]))) dX11_nextToken_43 (fun H locs hP hD hS => ?_)
    refine lv_aload_n hx hb dX11_nextToken_46 rfl (lv_at hl 0 rfl) ?_
    refine lv_iconst (v := nI 0) hx hb dX11_nextToken_47 (by decide) ?_
    refine ln_put (ci := 10) (C := RX11) (T := TX11) (N := 31) (ty := .int) (v := .int (nI (0))) hx hb hts ni11 tyX11 tyX11_ok nmX11 hown hK hP hD hS 0 (mw_c0 cy ad σ (mu_nu (mu_dg (mu_tk (mu_ta (mu_po T (nI (tB σ o))) (nI (tB σ o))) (m_tk T)) (m_dg T)) (m_nu T))) rfl 9 (by decide) (hts _ flX11_69) (fun _ h => h) rfl (by decide +kernel) rfl rfl (Nat.le_of_ble_eq_true rfl) ((mp_0_9 cy ad σ (mu_nu (mu_dg (mu_tk (mu_ta (mu_po T (nI (tB σ o))) (nI (tB σ o))) (m_tk T)) (m_dg T)) (m_nu T)) (nI (0))).trans (congrArg (fun z => mw cy ad σ z) (by rw [mx_dg_nu, mc_dg]))) dX11_nextToken_48 (fun H locs hP hD hS => ?_)
    refine lv_aload_n hx hb dX11_nextToken_51 rfl (lv_at hl 0 rfl) ?_
    refine lv_iconst (v := nI 0) hx hb dX11_nextToken_52 (by decide) ?_
    refine ln_put (ci := 10) (C := RX11) (T := TX11) (N := 31) (ty := .int) (v := .int (nI (0))) hx hb hts ni11 tyX11 tyX11_ok nmX11 hown hK hP hD hS 0 (mw_c0 cy ad σ (mu_nu (mu_dg (mu_tk (mu_ta (mu_po T (nI (tB σ o))) (nI (tB σ o))) (m_tk T)) (nI (0))) (m_nu T))) rfl 10 (by decide) (hts _ flX11_72) (fun _ h => h) rfl (by decide +kernel) rfl rfl (Nat.le_of_ble_eq_true rfl) ((mp_0_10 cy ad σ (mu_nu (mu_dg (mu_tk (mu_ta (mu_po T (nI (tB σ o))) (nI (tB σ o))) (m_tk T)) (nI (0))) (m_nu T)) (nI (0))).trans (congrArg (fun z => mw cy ad σ z) (by rw [mc_nu]))) dX11_nextToken_53 (fun H locs hP hD hS => ?_)
    refine lv_aload_n hx hb dX11_nextToken_56 rfl (lv_at hl 0 rfl) ?_
    refine va_get (D := D) (ci := 10) (v := .int (nI (tB σ o))) (C := RX11) (T := TX11) (N := 31) hx hb hts ni11 hown hK hP 0 (mw_c0 cy ad σ (mu_nu (mu_dg (mu_tk (mu_ta (mu_po T (nI (tB σ o))) (nI (tB σ o))) (m_tk T)) (nI (0))) (nI (0)))) rfl 6 (by decide) (hts _ flX11_63) (fun _ h => h) rfl dX11_nextToken_57 ?_
    refine lv_aload_n hx hb dX11_nextToken_60 rfl (lv_at hl 0 rfl) ?_
    refine va_get (D := D) (ci := 10) (v := .int (nI (s_ln σ))) (C := RX11) (T := TX11) (N := 31) hx hb hts ni11 hown hK hP 0 (mw_c0 cy ad σ (mu_nu (mu_dg (mu_tk (mu_ta (mu_po T (nI (tB σ o))) (nI (tB σ o))) (m_tk T)) (nI (0))) (nI (0)))) rfl 4 (by decide) (hts _ flX11_58) (fun _ h => h) rfl dX11_nextToken_61 ?_
    refine ln_icmp_ne (tgt := 77) hx hb dX11_nextToken_64 (by decide) (by omega) (by omega) (fun c64 => ?_) (fun c64 => ?_)
    · refine lv_aload_n hx hb dX11_nextToken_77 rfl (lv_at hl 0 rfl) ?_
      refine va_get (D := D) (ci := 10) (v := .ref (ad 3)) (C := RX11) (T := TX11) (N := 31) hx hb hts ni11 hown hK hP 0 (mw_c0 cy ad σ (mu_nu (mu_dg (mu_tk (mu_ta (mu_po T (nI (tB σ o))) (nI (tB σ o))) (m_tk T)) (nI (0))) (nI (0)))) rfl 5 (by decide) (hts _ flX11_16) (fun _ h => h) rfl dX11_nextToken_78 ?_
      refine lv_aload_n hx hb dX11_nextToken_81 rfl (lv_at hl 0 rfl) ?_
      refine va_get (D := D) (ci := 10) (v := .int (nI (tB σ o))) (C := RX11) (T := TX11) (N := 31) hx hb hts ni11 hown hK hP 0 (mw_c0 cy ad σ (mu_nu (mu_dg (mu_tk (mu_ta (mu_po T (nI (tB σ o))) (nI (tB σ o))) (m_tk T)) (nI (0))) (nI (0)))) rfl 6 (by decide) (hts _ flX11_63) (fun _ h => h) rfl dX11_nextToken_82 ?_
      refine ln_iald (v := (nI (s_tx σ (tB σ o)))) hx hb hK hP 3 (mw_c3 cy ad σ (mu_nu (mu_dg (mu_tk (mu_ta (mu_po T (nI (tB σ o))) (nI (tB σ o))) (m_tk T)) (nI (0))) (nI (0)))) (by omega) (by decide) rfl dX11_nextToken_85 ?_
      refine lv_bipush (v := nI 97) hx hb dX11_nextToken_86 (by decide) ?_
      refine lv_bipush (v := nI 122) hx hb dX11_nextToken_88 (by decide) ?_
      refine cr_s (n := 3) (As := [.int (nI (s_tx σ (tB σ o))), .int (nI (97)), .int (nI (122))]) (rest := []) ⟨hx, hb, hml, hown, hts⟩ (k_X11_in l (nI (s_tx σ (tB σ o))) (nI (97)) (nI (122))) gsX11_51 (by decide +kernel) ⟨Nat.le_of_ble_eq_true rfl, Nat.le_of_ble_eq_true rfl⟩ rfl hl.1 rfl (Nat.le_of_ble_eq_true rfl) dX11_nextToken_90 ⟨Nat.zero_le _, Nat.zero_le _⟩ ?_
      refine ln_eq (show (bI (decide ((nI (97)) ≤ (nI (s_tx σ (tB σ o))) ∧ (nI (s_tx σ (tB σ o))) ≤ (nI (122))))) = (bI (qL (s_tx σ (tB σ o)))) from congrArg bI (in_qL (htx _))) ?_
      refine lb_if_eq (tgt := 222) hx hb dX11_nextToken_93 (by decide) (fun c93 => ?_) (fun c93 => ?_)
      · refine lv_aload_n hx hb dX11_nextToken_222 rfl (lv_at hl 0 rfl) ?_
        refine va_get (D := D) (ci := 10) (v := .ref (ad 3)) (C := RX11) (T := TX11) (N := 31) hx hb hts ni11 hown hK hP 0 (mw_c0 cy ad σ (mu_nu (mu_dg (mu_tk (mu_ta (mu_po T (nI (tB σ o))) (nI (tB σ o))) (m_tk T)) (nI (0))) (nI (0)))) rfl 5 (by decide) (hts _ flX11_16) (fun _ h => h) rfl dX11_nextToken_223 ?_
        refine lv_aload_n hx hb dX11_nextToken_226 rfl (lv_at hl 0 rfl) ?_
        refine va_get (D := D) (ci := 10) (v := .int (nI (tB σ o))) (C := RX11) (T := TX11) (N := 31) hx hb hts ni11 hown hK hP 0 (mw_c0 cy ad σ (mu_nu (mu_dg (mu_tk (mu_ta (mu_po T (nI (tB σ o))) (nI (tB σ o))) (m_tk T)) (nI (0))) (nI (0)))) rfl 6 (by decide) (hts _ flX11_63) (fun _ h => h) rfl dX11_nextToken_227 ?_
        refine ln_iald (v := (nI (s_tx σ (tB σ o)))) hx hb hK hP 3 (mw_c3 cy ad σ (mu_nu (mu_dg (mu_tk (mu_ta (mu_po T (nI (tB σ o))) (nI (tB σ o))) (m_tk T)) (nI (0))) (nI (0)))) (by omega) (by decide) rfl dX11_nextToken_230 ?_
        refine lv_bipush (v := nI 48) hx hb dX11_nextToken_231 (by decide) ?_
        refine lv_bipush (v := nI 57) hx hb dX11_nextToken_233 (by decide) ?_
        refine cr_s (n := 3) (As := [.int (nI (s_tx σ (tB σ o))), .int (nI (48)), .int (nI (57))]) (rest := []) ⟨hx, hb, hml, hown, hts⟩ (k_X11_in l (nI (s_tx σ (tB σ o))) (nI (48)) (nI (57))) gsX11_51 (by decide +kernel) ⟨Nat.le_of_ble_eq_true rfl, Nat.le_of_ble_eq_true rfl⟩ rfl hl.1 rfl (Nat.le_of_ble_eq_true rfl) dX11_nextToken_235 ⟨Nat.zero_le _, Nat.zero_le _⟩ ?_
        refine ln_eq (show (bI (decide ((nI (48)) ≤ (nI (s_tx σ (tB σ o))) ∧ (nI (s_tx σ (tB σ o))) ≤ (nI (57))))) = (bI (qD (s_tx σ (tB σ o)))) from congrArg bI (in_qD (htx _))) ?_
        refine lb_if_eq (tgt := 357) hx hb dX11_nextToken_238 (by decide) (fun c238 => ?_) (fun c238 => ?_)
        · refine lv_aload_n hx hb dX11_nextToken_357 rfl (lv_at hl 0 rfl) ?_
          refine lv_aload_n hx hb dX11_nextToken_358 rfl (lv_at hl 0 rfl) ?_
          refine va_get (D := D) (ci := 10) (v := .ref (ad 3)) (C := RX11) (T := TX11) (N := 31) hx hb hts ni11 hown hK hP 0 (mw_c0 cy ad σ (mu_nu (mu_dg (mu_tk (mu_ta (mu_po T (nI (tB σ o))) (nI (tB σ o))) (m_tk T)) (nI (0))) (nI (0)))) rfl 5 (by decide) (hts _ flX11_16) (fun _ h => h) rfl dX11_nextToken_359 ?_
          refine lv_aload_n hx hb dX11_nextToken_362 rfl (lv_at hl 0 rfl) ?_
          refine va_get (D := D) (ci := 10) (v := .int (nI (tB σ o))) (C := RX11) (T := TX11) (N := 31) hx hb hts ni11 hown hK hP 0 (mw_c0 cy ad σ (mu_nu (mu_dg (mu_tk (mu_ta (mu_po T (nI (tB σ o))) (nI (tB σ o))) (m_tk T)) (nI (0))) (nI (0)))) rfl 6 (by decide) (hts _ flX11_63) (fun _ h => h) rfl dX11_nextToken_363 ?_
          refine ln_iald (v := (nI (s_tx σ (tB σ o)))) hx hb hK hP 3 (mw_c3 cy ad σ (mu_nu (mu_dg (mu_tk (mu_ta (mu_po T (nI (tB σ o))) (nI (tB σ o))) (m_tk T)) (nI (0))) (nI (0)))) (by omega) (by decide) rfl dX11_nextToken_366 ?_
          refine lv_bipush (v := nI 59) hx hb dX11_nextToken_367 (by decide) ?_
          refine ln_icmp_ne (tgt := 378) hx hb dX11_nextToken_369 (by decide) (by omega) (by omega) (fun c369 => ?_) (fun c369 => ?_)
          · refine lv_ldc2 (v := -4) hx hb hown (hts _ cnX11_85) dX11_nextToken_378 ?_
            refine ln_put (ci := 10) (C := RX11) (T := TX11) (N := 31) (ty := .long) (v := .long (-4)) hx hb hts ni11 tyX11 tyX11_ok nmX11 hown hK hP hD hS 0 (mw_c0 cy ad σ (mu_nu (mu_dg (mu_tk (mu_ta (mu_po T (nI (tB σ o))) (nI (tB σ o))) (m_tk T)) (nI (0))) (nI (0)))) rfl 8 (by decide) (hts _ flX11_77) (fun _ h => h) rfl (by decide +kernel) rfl rfl (Nat.le_of_ble_eq_true rfl) ((mp_0_8 cy ad σ (mu_nu (mu_dg (mu_tk (mu_ta (mu_po T (nI (tB σ o))) (nI (tB σ o))) (m_tk T)) (nI (0))) (nI (0))) (-4)).trans (congrArg (fun z => mw cy ad σ z) (by rw [mx_tk_nu, mx_tk_dg, mc_tk]))) dX11_nextToken_381 (fun H locs hP hD hS => ?_)
            refine lv_aload_n hx hb dX11_nextToken_384 rfl (lv_at hl 0 rfl) ?_
            refine lv_dup hx hb dX11_nextToken_385 rfl ?_
            refine va_get (D := D) (ci := 10) (v := .int (nI (tB σ o))) (C := RX11) (T := TX11) (N := 31) hx hb hts ni11 hown hK hP 0 (mw_c0 cy ad σ (mu_nu (mu_dg (mu_tk (mu_ta (mu_po T (nI (tB σ o))) (nI (tB σ o))) (-4)) (nI (0))) (nI (0)))) rfl 6 (by decide) (hts _ flX11_63) (fun _ h => h) rfl dX11_nextToken_386 ?_
            refine lv_iconst (v := nI 1) hx hb dX11_nextToken_389 (by decide) ?_
            refine ln_iadd hx hb dX11_nextToken_390 ?_
            refine ln_put (ci := 10) (C := RX11) (T := TX11) (N := 31) (ty := .int) (v := .int (nI ((tB σ o) + 1))) hx hb hts ni11 tyX11 tyX11_ok nmX11 hown hK hP hD hS 0 (mw_c0 cy ad σ (mu_nu (mu_dg (mu_tk (mu_ta (mu_po T (nI (tB σ o))) (nI (tB σ o))) (-4)) (nI (0))) (nI (0)))) rfl 6 (by decide) (hts _ flX11_63) (fun _ h => h) rfl (by decide +kernel) rfl rfl (Nat.le_of_ble_eq_true rfl) ((mp_0_6 cy ad σ (mu_nu (mu_dg (mu_tk (mu_ta (mu_po T (nI (tB σ o))) (nI (tB σ o))) (-4)) (nI (0))) (nI (0))) (nI ((tB σ o) + 1))).trans (congrArg (fun z => mw cy ad σ z) (by rw [mx_po_nu, mx_po_dg, mx_po_tk, mx_po_ta, mc_po]))) dX11_nextToken_391 (fun H locs hP hD hS => ?_)
            exact rw_v hx hb hr hlocks hS (mu_nu (mu_dg (mu_tk (mu_ta (mu_po T (nI ((tB σ o) + 1))) (nI (tB σ o))) (-4)) (nI (0))) (nI (0))) (by obtain ⟨e1, e2, e3⟩ := tok_O c64 c93 c238; exact ⟨by rw [e1]; rfl, rfl, by rw [e2, if_neg c369]; rfl, by rw [e3]; rfl, rfl, rfl, rfl, rfl, rfl⟩) hP dX11_nextToken_394
          · refine lv_ldc2 (v := -3) hx hb hown (hts _ cnX11_89) dX11_nextToken_372 ?_
            refine lv_goto (tgt := 381) hx hb dX11_nextToken_375 (by decide) ?_
            refine ln_put (ci := 10) (C := RX11) (T := TX11) (N := 31) (ty := .long) (v := .long (-3)) hx hb hts ni11 tyX11 tyX11_ok nmX11 hown hK hP hD hS 0 (mw_c0 cy ad σ (mu_nu (mu_dg (mu_tk (mu_ta (mu_po T (nI (tB σ o))) (nI (tB σ o))) (m_tk T)) (nI (0))) (nI (0)))) rfl 8 (by decide) (hts _ flX11_77) (fun _ h => h) rfl (by decide +kernel) rfl rfl (Nat.le_of_ble_eq_true rfl) ((mp_0_8 cy ad σ (mu_nu (mu_dg (mu_tk (mu_ta (mu_po T (nI (tB σ o))) (nI (tB σ o))) (m_tk T)) (nI (0))) (nI (0))) (-3)).trans (congrArg (fun z => mw cy ad σ z) (by rw [mx_tk_nu, mx_tk_dg, mc_tk]))) dX11_nextToken_381 (fun H locs hP hD hS => ?_)
            refine lv_aload_n hx hb dX11_nextToken_384 rfl (lv_at hl 0 rfl) ?_
            refine lv_dup hx hb dX11_nextToken_385 rfl ?_
            refine va_get (D := D) (ci := 10) (v := .int (nI (tB σ o))) (C := RX11) (T := TX11) (N := 31) hx hb hts ni11 hown hK hP 0 (mw_c0 cy ad σ (mu_nu (mu_dg (mu_tk (mu_ta (mu_po T (nI (tB σ o))) (nI (tB σ o))) (-3)) (nI (0))) (nI (0)))) rfl 6 (by decide) (hts _ flX11_63) (fun _ h => h) rfl dX11_nextToken_386 ?_
            refine lv_iconst (v := nI 1) hx hb dX11_nextToken_389 (by decide) ?_
            refine ln_iadd hx hb dX11_nextToken_390 ?_
            refine ln_put (ci := 10) (C := RX11) (T := TX11) (N := 31) (ty := .int) (v := .int (nI ((tB σ o) + 1))) hx hb hts ni11 tyX11 tyX11_ok nmX11 hown hK hP hD hS 0 (mw_c0 cy ad σ (mu_nu (mu_dg (mu_tk (mu_ta (mu_po T (nI (tB σ o))) (nI (tB σ o))) (-3)) (nI (0))) (nI (0)))) rfl 6 (by decide) (hts _ flX11_63) (fun _ h => h) rfl (by decide +kernel) rfl rfl (Nat.le_of_ble_eq_true rfl) ((mp_0_6 cy ad σ (mu_nu (mu_dg (mu_tk (mu_ta (mu_po T (nI (tB σ o))) (nI (tB σ o))) (-3)) (nI (0))) (nI (0))) (nI ((tB σ o) + 1))).trans (congrArg (fun z => mw cy ad σ z) (by rw [mx_po_nu, mx_po_dg, mx_po_tk, mx_po_ta, mc_po]))) dX11_nextToken_391 (fun H locs hP hD hS => ?_)
            exact rw_v hx hb hr hlocks hS (mu_nu (mu_dg (mu_tk (mu_ta (mu_po T (nI ((tB σ o) + 1))) (nI (tB σ o))) (-3)) (nI (0))) (nI (0))) (by obtain ⟨e1, e2, e3⟩ := tok_O c64 c93 c238; exact ⟨by rw [e1]; rfl, rfl, by rw [e2, if_pos c369]; rfl, by rw [e3]; rfl, rfl, rfl, rfl, rfl, rfl⟩) hP dX11_nextToken_394
        · have hend : ∀ (H : Heap) (locs : List Loc), va_P D vwCl (mw cy ad σ (mu_nu (mu_dg (mu_tk (mu_ta (mu_po T (nI (tDe σ (tB σ o)))) (nI (tB σ o))) (m_tk T)) (nI (tDe σ (tB σ o) - tB σ o))) (nI (nmN (s_tx σ) (tB σ o) (tDe σ (tB σ o) - tB σ o))))) H → va_D A (mw cy ad σ (mu_nu (mu_dg (mu_tk (mu_ta (mu_po T (nI (tDe σ (tB σ o)))) (nI (tB σ o))) (m_tk T)) (nI (tDe σ (tB σ o) - tB σ o))) (nI (nmN (s_tx σ) (tB σ o) (tDe σ (tB σ o) - tB σ o))))) → va_S A s.heap H locs → W p l e (headSpec qX11_nextToken (rq 2)).room s m ([.ref (ad 0)] : List Value).toArray below meth c H locs 0 0 (MQ below (va_Qv (fun u : Ms => tokP σ o T u) (fun u t => va_P D vwCl ((fun u : Ms => mw cy ad σ u) u) t.heap) A) ([.ref (ad 0)] : List Value).toArray s 0 0 A) (F0 m 333 ls []) := by
            intro H locs hP hD hS
            refine lv_aload_n hx hb dX11_nextToken_333 rfl (lv_at hl 0 rfl) ?_
            refine lv_aload_n hx hb dX11_nextToken_334 rfl (lv_at hl 0 rfl) ?_
            refine va_get (D := D) (ci := 10) (v := .int (nI (tDe σ (tB σ o) - tB σ o))) (C := RX11) (T := TX11) (N := 31) hx hb hts ni11 hown hK hP 0 (mw_c0 cy ad σ (mu_nu (mu_dg (mu_tk (mu_ta (mu_po T (nI (tDe σ (tB σ o)))) (nI (tB σ o))) (m_tk T)) (nI (tDe σ (tB σ o) - tB σ o))) (nI (nmN (s_tx σ) (tB σ o) (tDe σ (tB σ o) - tB σ o))))) rfl 9 (by decide) (hts _ flX11_69) (fun _ h => h) rfl dX11_nextToken_335 ?_
            refine lv_iconst (v := nI 3) hx hb dX11_nextToken_338 (by decide) ?_
            refine ln_icmp_le (tgt := 348) hx hb dX11_nextToken_339 (by decide) (by omega) (by omega) (fun c339 => ?_) (fun c339 => ?_)
            · refine lv_ldc2 (v := -1) hx hb hown (hts _ cnX11_87) dX11_nextToken_348 ?_
              refine ln_put (ci := 10) (C := RX11) (T := TX11) (N := 31) (ty := .long) (v := .long (-1)) hx hb hts ni11 tyX11 tyX11_ok nmX11 hown hK hP hD hS 0 (mw_c0 cy ad σ (mu_nu (mu_dg (mu_tk (mu_ta (mu_po T (nI (tDe σ (tB σ o)))) (nI (tB σ o))) (m_tk T)) (nI (tDe σ (tB σ o) - tB σ o))) (nI (nmN (s_tx σ) (tB σ o) (tDe σ (tB σ o) - tB σ o))))) rfl 8 (by decide) (hts _ flX11_77) (fun _ h => h) rfl (by decide +kernel) rfl rfl (Nat.le_of_ble_eq_true rfl) ((mp_0_8 cy ad σ (mu_nu (mu_dg (mu_tk (mu_ta (mu_po T (nI (tDe σ (tB σ o)))) (nI (tB σ o))) (m_tk T)) (nI (tDe σ (tB σ o) - tB σ o))) (nI (nmN (s_tx σ) (tB σ o) (tDe σ (tB σ o) - tB σ o)))) (-1)).trans (congrArg (fun z => mw cy ad σ z) (by rw [mx_tk_nu, mx_tk_dg, mc_tk]))) dX11_nextToken_351 (fun H locs hP hD hS => ?_)
              refine lv_goto (tgt := 394) hx hb dX11_nextToken_354 (by decide) ?_
              exact rw_v hx hb hr hlocks hS (mu_nu (mu_dg (mu_tk (mu_ta (mu_po T (nI (tDe σ (tB σ o)))) (nI (tB σ o))) (-1)) (nI (tDe σ (tB σ o) - tB σ o))) (nI (nmN (s_tx σ) (tB σ o) (tDe σ (tB σ o) - tB σ o)))) (by obtain ⟨e1, e2, e3⟩ := tok_D c64 c93 c238; exact ⟨by rw [e1]; rfl, rfl, by rw [e2, if_neg (by omega)]; rfl, by rw [e3]; rfl, rfl, rfl, rfl, rfl, rfl⟩) hP dX11_nextToken_394
            · refine lv_ldc2 (v := -4) hx hb hown (hts _ cnX11_85) dX11_nextToken_342 ?_
              refine lv_goto (tgt := 351) hx hb dX11_nextToken_345 (by decide) ?_
              refine ln_put (ci := 10) (C := RX11) (T := TX11) (N := 31) (ty := .long) (v := .long (-4)) hx hb hts ni11 tyX11 tyX11_ok nmX11 hown hK hP hD hS 0 (mw_c0 cy ad σ (mu_nu (mu_dg (mu_tk (mu_ta (mu_po T (nI (tDe σ (tB σ o)))) (nI (tB σ o))) (m_tk T)) (nI (tDe σ (tB σ o) - tB σ o))) (nI (nmN (s_tx σ) (tB σ o) (tDe σ (tB σ o) - tB σ o))))) rfl 8 (by decide) (hts _ flX11_77) (fun _ h => h) rfl (by decide +kernel) rfl rfl (Nat.le_of_ble_eq_true rfl) ((mp_0_8 cy ad σ (mu_nu (mu_dg (mu_tk (mu_ta (mu_po T (nI (tDe σ (tB σ o)))) (nI (tB σ o))) (m_tk T)) (nI (tDe σ (tB σ o) - tB σ o))) (nI (nmN (s_tx σ) (tB σ o) (tDe σ (tB σ o) - tB σ o)))) (-4)).trans (congrArg (fun z => mw cy ad σ z) (by rw [mx_tk_nu, mx_tk_dg, mc_tk]))) dX11_nextToken_351 (fun H locs hP hD hS => ?_)
              refine lv_goto (tgt := 394) hx hb dX11_nextToken_354 (by decide) ?_
              exact rw_v hx hb hr hlocks hS (mu_nu (mu_dg (mu_tk (mu_ta (mu_po T (nI (tDe σ (tB σ o)))) (nI (tB σ o))) (-4)) (nI (tDe σ (tB σ o) - tB σ o))) (nI (nmN (s_tx σ) (tB σ o) (tDe σ (tB σ o) - tB σ o)))) (by obtain ⟨e1, e2, e3⟩ := tok_D c64 c93 c238; exact ⟨by rw [e1]; rfl, rfl, by rw [e2, if_pos (by omega)]; rfl, by rw [e3]; rfl, rfl, rfl, rfl, rfl, rfl⟩) hP dX11_nextToken_394
          have hlq : ∀ (k q : Nat) (H : Heap) (locs : List Loc), s_ln σ ≤ q + k → q ≤ s_ln σ → tB σ o ≤ q → (∀ i, i < q - tB σ o → qD (s_tx σ (tB σ o + i)) = true) → rn (s_tx σ) (s_ln σ) qD k q = tDe σ (tB σ o) → va_P D vwCl (mw cy ad σ (mu_nu (mu_dg (mu_tk (mu_ta (mu_po T (nI q)) (nI (tB σ o))) (m_tk T)) (nI (q - tB σ o))) (nI (nmN (s_tx σ) (tB σ o) (q - tB σ o))))) H → va_D A (mw cy ad σ (mu_nu (mu_dg (mu_tk (mu_ta (mu_po T (nI q)) (nI (tB σ o))) (m_tk T)) (nI (q - tB σ o))) (nI (nmN (s_tx σ) (tB σ o) (q - tB σ o))))) → va_S A s.heap H locs → W p l e (headSpec qX11_nextToken (rq 2)).room s m ([.ref (ad 0)] : List Value).toArray below meth c H locs 0 0 (MQ below (va_Qv (fun u : Ms => tokP σ o T u) (fun u t => va_P D vwCl ((fun u : Ms => mw cy ad σ u) u) t.heap) A) ([.ref (ad 0)] : List Value).toArray s 0 0 A) (F0 m 241 ls []) := by
            intro k
            induction k with
            | zero =>
              intro q H locs hk hq hbq hal hrn hP hD hS
              have htq := htx q
              have hnm := nmN_999 hal
              refine lv_aload_n hx hb dX11_nextToken_241 rfl (lv_at hl 0 rfl) ?_
              refine va_get (D := D) (ci := 10) (v := .int (nI (q))) (C := RX11) (T := TX11) (N := 31) hx hb hts ni11 hown hK hP 0 (mw_c0 cy ad σ (mu_nu (mu_dg (mu_tk (mu_ta (mu_po T (nI q)) (nI (tB σ o))) (m_tk T)) (nI (q - tB σ o))) (nI (nmN (s_tx σ) (tB σ o) (q - tB σ o))))) rfl 6 (by decide) (hts _ flX11_63) (fun _ h => h) rfl dX11_nextToken_242 ?_
              refine lv_aload_n hx hb dX11_nextToken_245 rfl (lv_at hl 0 rfl) ?_
              refine va_get (D := D) (ci := 10) (v := .int (nI (s_ln σ))) (C := RX11) (T := TX11) (N := 31) hx hb hts ni11 hown hK hP 0 (mw_c0 cy ad σ (mu_nu (mu_dg (mu_tk (mu_ta (mu_po T (nI q)) (nI (tB σ o))) (m_tk T)) (nI (q - tB σ o))) (nI (nmN (s_tx σ) (tB σ o) (q - tB σ o))))) rfl 4 (by decide) (hts _ flX11_58) (fun _ h => h) rfl dX11_nextToken_246 ?_
              refine ln_icmp_ge (tgt := 333) hx hb dX11_nextToken_249 (by decide) (by omega) (by omega) (fun c249 => ?_) (fun c249 => ?_)
              · have hqe : q = tDe σ (tB σ o) := by first | exact rn_e hrn (by omega) | exact rn_n hrn c268
                rw [hqe] at hP hD
                exact hend _ _ hP hD hS
              · refine lv_aload_n hx hb dX11_nextToken_252 rfl (lv_at hl 0 rfl) ?_
                refine va_get (D := D) (ci := 10) (v := .ref (ad 3)) (C := RX11) (T := TX11) (N := 31) hx hb hts ni11 hown hK hP 0 (mw_c0 cy ad σ (mu_nu (mu_dg (mu_tk (mu_ta (mu_po T (nI q)) (nI (tB σ o))) (m_tk T)) (nI (q - tB σ o))) (nI (nmN (s_tx σ) (tB σ o) (q - tB σ o))))) rfl 5 (by decide) (hts _ flX11_16) (fun _ h => h) rfl dX11_nextToken_253 ?_
                refine lv_aload_n hx hb dX11_nextToken_256 rfl (lv_at hl 0 rfl) ?_
                refine va_get (D := D) (ci := 10) (v := .int (nI (q))) (C := RX11) (T := TX11) (N := 31) hx hb hts ni11 hown hK hP 0 (mw_c0 cy ad σ (mu_nu (mu_dg (mu_tk (mu_ta (mu_po T (nI q)) (nI (tB σ o))) (m_tk T)) (nI (q - tB σ o))) (nI (nmN (s_tx σ) (tB σ o) (q - tB σ o))))) rfl 6 (by decide) (hts _ flX11_63) (fun _ h => h) rfl dX11_nextToken_257 ?_
                refine ln_iald (v := (nI (s_tx σ q))) hx hb hK hP 3 (mw_c3 cy ad σ (mu_nu (mu_dg (mu_tk (mu_ta (mu_po T (nI q)) (nI (tB σ o))) (m_tk T)) (nI (q - tB σ o))) (nI (nmN (s_tx σ) (tB σ o) (q - tB σ o))))) (by omega) (by decide) rfl dX11_nextToken_260 ?_
                refine lv_bipush (v := nI 48) hx hb dX11_nextToken_261 (by decide) ?_
                refine lv_bipush (v := nI 57) hx hb dX11_nextToken_263 (by decide) ?_
                refine cr_s (n := 3) (As := [.int (nI (s_tx σ q)), .int (nI (48)), .int (nI (57))]) (rest := []) ⟨hx, hb, hml, hown, hts⟩ (k_X11_in l (nI (s_tx σ q)) (nI (48)) (nI (57))) gsX11_51 (by decide +kernel) ⟨Nat.le_of_ble_eq_true rfl, Nat.le_of_ble_eq_true rfl⟩ rfl hl.1 rfl (Nat.le_of_ble_eq_true rfl) dX11_nextToken_265 ⟨Nat.zero_le _, Nat.zero_le _⟩ ?_
                refine ln_eq (show (bI (decide ((nI (48)) ≤ (nI (s_tx σ q)) ∧ (nI (s_tx σ q)) ≤ (nI (57))))) = (bI (qD (s_tx σ (q)))) from congrArg bI (in_qD (htx _))) ?_
                refine lb_if_eq (tgt := 333) hx hb dX11_nextToken_268 (by decide) (fun c268 => ?_) (fun c268 => ?_)
                · have hqe : q = tDe σ (tB σ o) := by first | exact rn_e hrn (by omega) | exact rn_n hrn c268
                  rw [hqe] at hP hD
                  exact hend _ _ hP hD hS
                · refine lv_aload_n hx hb dX11_nextToken_271 rfl (lv_at hl 0 rfl) ?_
                  refine lv_aload_n hx hb dX11_nextToken_272 rfl (lv_at hl 0 rfl) ?_
                  refine va_get (D := D) (ci := 10) (v := .int (nI (q - tB σ o))) (C := RX11) (T := TX11) (N := 31) hx hb hts ni11 hown hK hP 0 (mw_c0 cy ad σ (mu_nu (mu_dg (mu_tk (mu_ta (mu_po T (nI q)) (nI (tB σ o))) (m_tk T)) (nI (q - tB σ o))) (nI (nmN (s_tx σ) (tB σ o) (q - tB σ o))))) rfl 9 (by decide) (hts _ flX11_69) (fun _ h => h) rfl dX11_nextToken_273 ?_
                  refine lv_iconst (v := nI 3) hx hb dX11_nextToken_276 (by decide) ?_
                  refine ln_icmp_ge (tgt := 303) hx hb dX11_nextToken_277 (by decide) (by omega) (by omega) (fun c277 => ?_) (fun c277 => ?_)
                  · refine lv_aload_n hx hb dX11_nextToken_303 rfl (lv_at hl 0 rfl) ?_
                    refine va_get (D := D) (ci := 10) (v := .int (nI (nmN (s_tx σ) (tB σ o) (q - tB σ o)))) (C := RX11) (T := TX11) (N := 31) hx hb hts ni11 hown hK hP 0 (mw_c0 cy ad σ (mu_nu (mu_dg (mu_tk (mu_ta (mu_po T (nI q)) (nI (tB σ o))) (m_tk T)) (nI (q - tB σ o))) (nI (nmN (s_tx σ) (tB σ o) (q - tB σ o))))) rfl 10 (by decide) (hts _ flX11_72) (fun _ h => h) rfl dX11_nextToken_304 ?_
                    refine ln_nat (show nmN (s_tx σ) (tB σ o) (q - tB σ o) = nmN (s_tx σ) (tB σ o) (q + 1 - tB σ o) from nm_overq hbq c277) ?_
                    refine ln_put (ci := 10) (C := RX11) (T := TX11) (N := 31) (ty := .int) (v := .int (nI (nmN (s_tx σ) (tB σ o) (q + 1 - tB σ o)))) hx hb hts ni11 tyX11 tyX11_ok nmX11 hown hK hP hD hS 0 (mw_c0 cy ad σ (mu_nu (mu_dg (mu_tk (mu_ta (mu_po T (nI q)) (nI (tB σ o))) (m_tk T)) (nI (q - tB σ o))) (nI (nmN (s_tx σ) (tB σ o) (q - tB σ o))))) rfl 10 (by decide) (hts _ flX11_72) (fun _ h => h) rfl (by decide +kernel) rfl rfl (Nat.le_of_ble_eq_true rfl) ((mp_0_10 cy ad σ (mu_nu (mu_dg (mu_tk (mu_ta (mu_po T (nI q)) (nI (tB σ o))) (m_tk T)) (nI (q - tB σ o))) (nI (nmN (s_tx σ) (tB σ o) (q - tB σ o)))) (nI (nmN (s_tx σ) (tB σ o) (q + 1 - tB σ o)))).trans (congrArg (fun z => mw cy ad σ z) (by rw [mc_nu]))) dX11_nextToken_307 (fun H locs hP hD hS => ?_)
                    refine lv_aload_n hx hb dX11_nextToken_310 rfl (lv_at hl 0 rfl) ?_
                    refine lv_dup hx hb dX11_nextToken_311 rfl ?_
                    refine va_get (D := D) (ci := 10) (v := .int (nI (q - tB σ o))) (C := RX11) (T := TX11) (N := 31) hx hb hts ni11 hown hK hP 0 (mw_c0 cy ad σ (mu_nu (mu_dg (mu_tk (mu_ta (mu_po T (nI q)) (nI (tB σ o))) (m_tk T)) (nI (q - tB σ o))) (nI (nmN (s_tx σ) (tB σ o) (q + 1 - tB σ o))))) rfl 9 (by decide) (hts _ flX11_69) (fun _ h => h) rfl dX11_nextToken_312 ?_
                    refine lv_iconst (v := nI 1) hx hb dX11_nextToken_315 (by decide) ?_
                    refine ln_iadd hx hb dX11_nextToken_316 ?_
                    refine ln_nat (show (q - tB σ o) + 1 = q + 1 - tB σ o from by omega) ?_
                    refine ln_put (ci := 10) (C := RX11) (T := TX11) (N := 31) (ty := .int) (v := .int (nI (q + 1 - tB σ o))) hx hb hts ni11 tyX11 tyX11_ok nmX11 hown hK hP hD hS 0 (mw_c0 cy ad σ (mu_nu (mu_dg (mu_tk (mu_ta (mu_po T (nI q)) (nI (tB σ o))) (m_tk T)) (nI (q - tB σ o))) (nI (nmN (s_tx σ) (tB σ o) (q + 1 - tB σ o))))) rfl 9 (by decide) (hts _ flX11_69) (fun _ h => h) rfl (by decide +kernel) rfl rfl (Nat.le_of_ble_eq_true rfl) ((mp_0_9 cy ad σ (mu_nu (mu_dg (mu_tk (mu_ta (mu_po T (nI q)) (nI (tB σ o))) (m_tk T)) (nI (q - tB σ o))) (nI (nmN (s_tx σ) (tB σ o) (q + 1 - tB σ o)))) (nI (q + 1 - tB σ o))).trans (congrArg (fun z => mw cy ad σ z) (by rw [mx_dg_nu, mc_dg]))) dX11_nextToken_317 (fun H locs hP hD hS => ?_)
                    refine lv_aload_n hx hb dX11_nextToken_320 rfl (lv_at hl 0 rfl) ?_
                    refine lv_dup hx hb dX11_nextToken_321 rfl ?_
                    refine va_get (D := D) (ci := 10) (v := .int (nI (q))) (C := RX11) (T := TX11) (N := 31) hx hb hts ni11 hown hK hP 0 (mw_c0 cy ad σ (mu_nu (mu_dg (mu_tk (mu_ta (mu_po T (nI q)) (nI (tB σ o))) (m_tk T)) (nI (q + 1 - tB σ o))) (nI (nmN (s_tx σ) (tB σ o) (q + 1 - tB σ o))))) rfl 6 (by decide) (hts _ flX11_63) (fun _ h => h) rfl dX11_nextToken_322 ?_
                    refine lv_iconst (v := nI 1) hx hb dX11_nextToken_325 (by decide) ?_
                    refine ln_iadd hx hb dX11_nextToken_326 ?_
                    refine ln_put (ci := 10) (C := RX11) (T := TX11) (N := 31) (ty := .int) (v := .int (nI (q + 1))) hx hb hts ni11 tyX11 tyX11_ok nmX11 hown hK hP hD hS 0 (mw_c0 cy ad σ (mu_nu (mu_dg (mu_tk (mu_ta (mu_po T (nI q)) (nI (tB σ o))) (m_tk T)) (nI (q + 1 - tB σ o))) (nI (nmN (s_tx σ) (tB σ o) (q + 1 - tB σ o))))) rfl 6 (by decide) (hts _ flX11_63) (fun _ h => h) rfl (by decide +kernel) rfl rfl (Nat.le_of_ble_eq_true rfl) ((mp_0_6 cy ad σ (mu_nu (mu_dg (mu_tk (mu_ta (mu_po T (nI q)) (nI (tB σ o))) (m_tk T)) (nI (q + 1 - tB σ o))) (nI (nmN (s_tx σ) (tB σ o) (q + 1 - tB σ o)))) (nI (q + 1))).trans (congrArg (fun z => mw cy ad σ z) (by rw [mx_po_nu, mx_po_dg, mx_po_tk, mx_po_ta, mc_po]))) dX11_nextToken_327 (fun H locs hP hD hS => ?_)
                    refine lv_goto (tgt := 241) hx hb dX11_nextToken_330 (by decide) ?_
                    first | exact ih (q + 1) _ _ (by omega) (by omega) (by omega) (all_s hbq hal c268) (rn_s hrn (by omega) c268) hP hD hS | (exfalso; omega)
                  · refine lv_bipush (v := nI 10) hx hb dX11_nextToken_280 (by decide) ?_
                    refine lv_aload_n hx hb dX11_nextToken_282 rfl (lv_at hl 0 rfl) ?_
                    refine va_get (D := D) (ci := 10) (v := .int (nI (nmN (s_tx σ) (tB σ o) (q - tB σ o)))) (C := RX11) (T := TX11) (N := 31) hx hb hts ni11 hown hK hP 0 (mw_c0 cy ad σ (mu_nu (mu_dg (mu_tk (mu_ta (mu_po T (nI q)) (nI (tB σ o))) (m_tk T)) (nI (q - tB σ o))) (nI (nmN (s_tx σ) (tB σ o) (q - tB σ o))))) rfl 10 (by decide) (hts _ flX11_72) (fun _ h => h) rfl dX11_nextToken_283 ?_
                    refine ln_imul hx hb dX11_nextToken_286 ?_
                    refine lv_aload_n hx hb dX11_nextToken_287 rfl (lv_at hl 0 rfl) ?_
                    refine va_get (D := D) (ci := 10) (v := .ref (ad 3)) (C := RX11) (T := TX11) (N := 31) hx hb hts ni11 hown hK hP 0 (mw_c0 cy ad σ (mu_nu (mu_dg (mu_tk (mu_ta (mu_po T (nI q)) (nI (tB σ o))) (m_tk T)) (nI (q - tB σ o))) (nI (nmN (s_tx σ) (tB σ o) (q - tB σ o))))) rfl 5 (by decide) (hts _ flX11_16) (fun _ h => h) rfl dX11_nextToken_288 ?_
                    refine lv_aload_n hx hb dX11_nextToken_291 rfl (lv_at hl 0 rfl) ?_
                    refine va_get (D := D) (ci := 10) (v := .int (nI (q))) (C := RX11) (T := TX11) (N := 31) hx hb hts ni11 hown hK hP 0 (mw_c0 cy ad σ (mu_nu (mu_dg (mu_tk (mu_ta (mu_po T (nI q)) (nI (tB σ o))) (m_tk T)) (nI (q - tB σ o))) (nI (nmN (s_tx σ) (tB σ o) (q - tB σ o))))) rfl 6 (by decide) (hts _ flX11_63) (fun _ h => h) rfl dX11_nextToken_292 ?_
                    refine ln_iald (v := (nI (s_tx σ q))) hx hb hK hP 3 (mw_c3 cy ad σ (mu_nu (mu_dg (mu_tk (mu_ta (mu_po T (nI q)) (nI (tB σ o))) (m_tk T)) (nI (q - tB σ o))) (nI (nmN (s_tx σ) (tB σ o) (q - tB σ o))))) (by omega) (by decide) rfl dX11_nextToken_295 ?_
                    refine ln_iadd hx hb dX11_nextToken_296 ?_
                    refine lv_bipush (v := nI 48) hx hb dX11_nextToken_297 (by decide) ?_
                    refine ln_isub hx hb dX11_nextToken_299 (by have := of_decide_eq_true c268; omega) ?_
                    refine lv_goto (tgt := 307) hx hb dX11_nextToken_300 (by decide) ?_
                    refine ln_nat (show ((10 * (nmN (s_tx σ) (tB σ o) (q - tB σ o))) + (s_tx σ q)) - 48 = nmN (s_tx σ) (tB σ o) (q + 1 - tB σ o) from nm_stepq hbq c277 c268) ?_
                    refine ln_put (ci := 10) (C := RX11) (T := TX11) (N := 31) (ty := .int) (v := .int (nI (nmN (s_tx σ) (tB σ o) (q + 1 - tB σ o)))) hx hb hts ni11 tyX11 tyX11_ok nmX11 hown hK hP hD hS 0 (mw_c0 cy ad σ (mu_nu (mu_dg (mu_tk (mu_ta (mu_po T (nI q)) (nI (tB σ o))) (m_tk T)) (nI (q - tB σ o))) (nI (nmN (s_tx σ) (tB σ o) (q - tB σ o))))) rfl 10 (by decide) (hts _ flX11_72) (fun _ h => h) rfl (by decide +kernel) rfl rfl (Nat.le_of_ble_eq_true rfl) ((mp_0_10 cy ad σ (mu_nu (mu_dg (mu_tk (mu_ta (mu_po T (nI q)) (nI (tB σ o))) (m_tk T)) (nI (q - tB σ o))) (nI (nmN (s_tx σ) (tB σ o) (q - tB σ o)))) (nI (nmN (s_tx σ) (tB σ o) (q + 1 - tB σ o)))).trans (congrArg (fun z => mw cy ad σ z) (by rw [mc_nu]))) dX11_nextToken_307 (fun H locs hP hD hS => ?_)
                    refine lv_aload_n hx hb dX11_nextToken_310 rfl (lv_at hl 0 rfl) ?_
                    refine lv_dup hx hb dX11_nextToken_311 rfl ?_
                    refine va_get (D := D) (ci := 10) (v := .int (nI (q - tB σ o))) (C := RX11) (T := TX11) (N := 31) hx hb hts ni11 hown hK hP 0 (mw_c0 cy ad σ (mu_nu (mu_dg (mu_tk (mu_ta (mu_po T (nI q)) (nI (tB σ o))) (m_tk T)) (nI (q - tB σ o))) (nI (nmN (s_tx σ) (tB σ o) (q + 1 - tB σ o))))) rfl 9 (by decide) (hts _ flX11_69) (fun _ h => h) rfl dX11_nextToken_312 ?_
                    refine lv_iconst (v := nI 1) hx hb dX11_nextToken_315 (by decide) ?_
                    refine ln_iadd hx hb dX11_nextToken_316 ?_
                    refine ln_nat (show (q - tB σ o) + 1 = q + 1 - tB σ o from by omega) ?_
                    refine ln_put (ci := 10) (C := RX11) (T := TX11) (N := 31) (ty := .int) (v := .int (nI (q + 1 - tB σ o))) hx hb hts ni11 tyX11 tyX11_ok nmX11 hown hK hP hD hS 0 (mw_c0 cy ad σ (mu_nu (mu_dg (mu_tk (mu_ta (mu_po T (nI q)) (nI (tB σ o))) (m_tk T)) (nI (q - tB σ o))) (nI (nmN (s_tx σ) (tB σ o) (q + 1 - tB σ o))))) rfl 9 (by decide) (hts _ flX11_69) (fun _ h => h) rfl (by decide +kernel) rfl rfl (Nat.le_of_ble_eq_true rfl) ((mp_0_9 cy ad σ (mu_nu (mu_dg (mu_tk (mu_ta (mu_po T (nI q)) (nI (tB σ o))) (m_tk T)) (nI (q - tB σ o))) (nI (nmN (s_tx σ) (tB σ o) (q + 1 - tB σ o)))) (nI (q + 1 - tB σ o))).trans (congrArg (fun z => mw cy ad σ z) (by rw [mx_dg_nu, mc_dg]))) dX11_nextToken_317 (fun H locs hP hD hS => ?_)
                    refine lv_aload_n hx hb dX11_nextToken_320 rfl (lv_at hl 0 rfl) ?_
                    refine lv_dup hx hb dX11_nextToken_321 rfl ?_
                    refine va_get (D := D) (ci := 10) (v := .int (nI (q))) (C := RX11) (T := TX11) (N := 31) hx hb hts ni11 hown hK hP 0 (mw_c0 cy ad σ (mu_nu (mu_dg (mu_tk (mu_ta (mu_po T (nI q)) (nI (tB σ o))) (m_tk T)) (nI (q + 1 - tB σ o))) (nI (nmN (s_tx σ) (tB σ o) (q + 1 - tB σ o))))) rfl 6 (by decide) (hts _ flX11_63) (fun _ h => h) rfl dX11_nextToken_322 ?_
                    refine lv_iconst (v := nI 1) hx hb dX11_nextToken_325 (by decide) ?_
                    refine ln_iadd hx hb dX11_nextToken_326 ?_
                    refine ln_put (ci := 10) (C := RX11) (T := TX11) (N := 31) (ty := .int) (v := .int (nI (q + 1))) hx hb hts ni11 tyX11 tyX11_ok nmX11 hown hK hP hD hS 0 (mw_c0 cy ad σ (mu_nu (mu_dg (mu_tk (mu_ta (mu_po T (nI q)) (nI (tB σ o))) (m_tk T)) (nI (q + 1 - tB σ o))) (nI (nmN (s_tx σ) (tB σ o) (q + 1 - tB σ o))))) rfl 6 (by decide) (hts _ flX11_63) (fun _ h => h) rfl (by decide +kernel) rfl rfl (Nat.le_of_ble_eq_true rfl) ((mp_0_6 cy ad σ (mu_nu (mu_dg (mu_tk (mu_ta (mu_po T (nI q)) (nI (tB σ o))) (m_tk T)) (nI (q + 1 - tB σ o))) (nI (nmN (s_tx σ) (tB σ o) (q + 1 - tB σ o)))) (nI (q + 1))).trans (congrArg (fun z => mw cy ad σ z) (by rw [mx_po_nu, mx_po_dg, mx_po_tk, mx_po_ta, mc_po]))) dX11_nextToken_327 (fun H locs hP hD hS => ?_)
                    refine lv_goto (tgt := 241) hx hb dX11_nextToken_330 (by decide) ?_
                    first | exact ih (q + 1) _ _ (by omega) (by omega) (by omega) (all_s hbq hal c268) (rn_s hrn (by omega) c268) hP hD hS | (exfalso; omega)
            | succ k ih =>
              intro q H locs hk hq hbq hal hrn hP hD hS
              have htq := htx q
              have hnm := nmN_999 hal
              refine lv_aload_n hx hb dX11_nextToken_241 rfl (lv_at hl 0 rfl) ?_
              refine va_get (D := D) (ci := 10) (v := .int (nI (q))) (C := RX11) (T := TX11) (N := 31) hx hb hts ni11 hown hK hP 0 (mw_c0 cy ad σ (mu_nu (mu_dg (mu_tk (mu_ta (mu_po T (nI q)) (nI (tB σ o))) (m_tk T)) (nI (q - tB σ o))) (nI (nmN (s_tx σ) (tB σ o) (q - tB σ o))))) rfl 6 (by decide) (hts _ flX11_63) (fun _ h => h) rfl dX11_nextToken_242 ?_
              refine lv_aload_n hx hb dX11_nextToken_245 rfl (lv_at hl 0 rfl) ?_
              refine va_get (D := D) (ci := 10) (v := .int (nI (s_ln σ))) (C := RX11) (T := TX11) (N := 31) hx hb hts ni11 hown hK hP 0 (mw_c0 cy ad σ (mu_nu (mu_dg (mu_tk (mu_ta (mu_po T (nI q)) (nI (tB σ o))) (m_tk T)) (nI (q - tB σ o))) (nI (nmN (s_tx σ) (tB σ o) (q - tB σ o))))) rfl 4 (by decide) (hts _ flX11_58) (fun _ h => h) rfl dX11_nextToken_246 ?_
              refine ln_icmp_ge (tgt := 333) hx hb dX11_nextToken_249 (by decide) (by omega) (by omega) (fun c249 => ?_) (fun c249 => ?_)
              · have hqe : q = tDe σ (tB σ o) := by first | exact rn_e hrn (by omega) | exact rn_n hrn c268
                rw [hqe] at hP hD
                exact hend _ _ hP hD hS
              · refine lv_aload_n hx hb dX11_nextToken_252 rfl (lv_at hl 0 rfl) ?_
                refine va_get (D := D) (ci := 10) (v := .ref (ad 3)) (C := RX11) (T := TX11) (N := 31) hx hb hts ni11 hown hK hP 0 (mw_c0 cy ad σ (mu_nu (mu_dg (mu_tk (mu_ta (mu_po T (nI q)) (nI (tB σ o))) (m_tk T)) (nI (q - tB σ o))) (nI (nmN (s_tx σ) (tB σ o) (q - tB σ o))))) rfl 5 (by decide) (hts _ flX11_16) (fun _ h => h) rfl dX11_nextToken_253 ?_
                refine lv_aload_n hx hb dX11_nextToken_256 rfl (lv_at hl 0 rfl) ?_
                refine va_get (D := D) (ci := 10) (v := .int (nI (q))) (C := RX11) (T := TX11) (N := 31) hx hb hts ni11 hown hK hP 0 (mw_c0 cy ad σ (mu_nu (mu_dg (mu_tk (mu_ta (mu_po T (nI q)) (nI (tB σ o))) (m_tk T)) (nI (q - tB σ o))) (nI (nmN (s_tx σ) (tB σ o) (q - tB σ o))))) rfl 6 (by decide) (hts _ flX11_63) (fun _ h => h) rfl dX11_nextToken_257 ?_
                refine ln_iald (v := (nI (s_tx σ q))) hx hb hK hP 3 (mw_c3 cy ad σ (mu_nu (mu_dg (mu_tk (mu_ta (mu_po T (nI q)) (nI (tB σ o))) (m_tk T)) (nI (q - tB σ o))) (nI (nmN (s_tx σ) (tB σ o) (q - tB σ o))))) (by omega) (by decide) rfl dX11_nextToken_260 ?_
                refine lv_bipush (v := nI 48) hx hb dX11_nextToken_261 (by decide) ?_
                refine lv_bipush (v := nI 57) hx hb dX11_nextToken_263 (by decide) ?_
                refine cr_s (n := 3) (As := [.int (nI (s_tx σ q)), .int (nI (48)), .int (nI (57))]) (rest := []) ⟨hx, hb, hml, hown, hts⟩ (k_X11_in l (nI (s_tx σ q)) (nI (48)) (nI (57))) gsX11_51 (by decide +kernel) ⟨Nat.le_of_ble_eq_true rfl, Nat.le_of_ble_eq_true rfl⟩ rfl hl.1 rfl (Nat.le_of_ble_eq_true rfl) dX11_nextToken_265 ⟨Nat.zero_le _, Nat.zero_le _⟩ ?_
                refine ln_eq (show (bI (decide ((nI (48)) ≤ (nI (s_tx σ q)) ∧ (nI (s_tx σ q)) ≤ (nI (57))))) = (bI (qD (s_tx σ (q)))) from congrArg bI (in_qD (htx _))) ?_
                refine lb_if_eq (tgt := 333) hx hb dX11_nextToken_268 (by decide) (fun c268 => ?_) (fun c268 => ?_)
                · have hqe : q = tDe σ (tB σ o) := by first | exact rn_e hrn (by omega) | exact rn_n hrn c268
                  rw [hqe] at hP hD
                  exact hend _ _ hP hD hS
                · refine lv_aload_n hx hb dX11_nextToken_271 rfl (lv_at hl 0 rfl) ?_
                  refine lv_aload_n hx hb dX11_nextToken_272 rfl (lv_at hl 0 rfl) ?_
                  refine va_get (D := D) (ci := 10) (v := .int (nI (q - tB σ o))) (C := RX11) (T := TX11) (N := 31) hx hb hts ni11 hown hK hP 0 (mw_c0 cy ad σ (mu_nu (mu_dg (mu_tk (mu_ta (mu_po T (nI q)) (nI (tB σ o))) (m_tk T)) (nI (q - tB σ o))) (nI (nmN (s_tx σ) (tB σ o) (q - tB σ o))))) rfl 9 (by decide) (hts _ flX11_69) (fun _ h => h) rfl dX11_nextToken_273 ?_
                  refine lv_iconst (v := nI 3) hx hb dX11_nextToken_276 (by decide) ?_
                  refine ln_icmp_ge (tgt := 303) hx hb dX11_nextToken_277 (by decide) (by omega) (by omega) (fun c277 => ?_) (fun c277 => ?_)
                  · refine lv_aload_n hx hb dX11_nextToken_303 rfl (lv_at hl 0 rfl) ?_
                    refine va_get (D := D) (ci := 10) (v := .int (nI (nmN (s_tx σ) (tB σ o) (q - tB σ o)))) (C := RX11) (T := TX11) (N := 31) hx hb hts ni11 hown hK hP 0 (mw_c0 cy ad σ (mu_nu (mu_dg (mu_tk (mu_ta (mu_po T (nI q)) (nI (tB σ o))) (m_tk T)) (nI (q - tB σ o))) (nI (nmN (s_tx σ) (tB σ o) (q - tB σ o))))) rfl 10 (by decide) (hts _ flX11_72) (fun _ h => h) rfl dX11_nextToken_304 ?_
                    refine ln_nat (show nmN (s_tx σ) (tB σ o) (q - tB σ o) = nmN (s_tx σ) (tB σ o) (q + 1 - tB σ o) from nm_overq hbq c277) ?_
                    refine ln_put (ci := 10) (C := RX11) (T := TX11) (N := 31) (ty := .int) (v := .int (nI (nmN (s_tx σ) (tB σ o) (q + 1 - tB σ o)))) hx hb hts ni11 tyX11 tyX11_ok nmX11 hown hK hP hD hS 0 (mw_c0 cy ad σ (mu_nu (mu_dg (mu_tk (mu_ta (mu_po T (nI q)) (nI (tB σ o))) (m_tk T)) (nI (q - tB σ o))) (nI (nmN (s_tx σ) (tB σ o) (q - tB σ o))))) rfl 10 (by decide) (hts _ flX11_72) (fun _ h => h) rfl (by decide +kernel) rfl rfl (Nat.le_of_ble_eq_true rfl) ((mp_0_10 cy ad σ (mu_nu (mu_dg (mu_tk (mu_ta (mu_po T (nI q)) (nI (tB σ o))) (m_tk T)) (nI (q - tB σ o))) (nI (nmN (s_tx σ) (tB σ o) (q - tB σ o)))) (nI (nmN (s_tx σ) (tB σ o) (q + 1 - tB σ o)))).trans (congrArg (fun z => mw cy ad σ z) (by rw [mc_nu]))) dX11_nextToken_307 (fun H locs hP hD hS => ?_)
                    refine lv_aload_n hx hb dX11_nextToken_310 rfl (lv_at hl 0 rfl) ?_
                    refine lv_dup hx hb dX11_nextToken_311 rfl ?_
                    refine va_get (D := D) (ci := 10) (v := .int (nI (q - tB σ o))) (C := RX11) (T := TX11) (N := 31) hx hb hts ni11 hown hK hP 0 (mw_c0 cy ad σ (mu_nu (mu_dg (mu_tk (mu_ta (mu_po T (nI q)) (nI (tB σ o))) (m_tk T)) (nI (q - tB σ o))) (nI (nmN (s_tx σ) (tB σ o) (q + 1 - tB σ o))))) rfl 9 (by decide) (hts _ flX11_69) (fun _ h => h) rfl dX11_nextToken_312 ?_
                    refine lv_iconst (v := nI 1) hx hb dX11_nextToken_315 (by decide) ?_
                    refine ln_iadd hx hb dX11_nextToken_316 ?_
                    refine ln_nat (show (q - tB σ o) + 1 = q + 1 - tB σ o from by omega) ?_
                    refine ln_put (ci := 10) (C := RX11) (T := TX11) (N := 31) (ty := .int) (v := .int (nI (q + 1 - tB σ o))) hx hb hts ni11 tyX11 tyX11_ok nmX11 hown hK hP hD hS 0 (mw_c0 cy ad σ (mu_nu (mu_dg (mu_tk (mu_ta (mu_po T (nI q)) (nI (tB σ o))) (m_tk T)) (nI (q - tB σ o))) (nI (nmN (s_tx σ) (tB σ o) (q + 1 - tB σ o))))) rfl 9 (by decide) (hts _ flX11_69) (fun _ h => h) rfl (by decide +kernel) rfl rfl (Nat.le_of_ble_eq_true rfl) ((mp_0_9 cy ad σ (mu_nu (mu_dg (mu_tk (mu_ta (mu_po T (nI q)) (nI (tB σ o))) (m_tk T)) (nI (q - tB σ o))) (nI (nmN (s_tx σ) (tB σ o) (q + 1 - tB σ o)))) (nI (q + 1 - tB σ o))).trans (congrArg (fun z => mw cy ad σ z) (by rw [mx_dg_nu, mc_dg]))) dX11_nextToken_317 (fun H locs hP hD hS => ?_)
                    refine lv_aload_n hx hb dX11_nextToken_320 rfl (lv_at hl 0 rfl) ?_
                    refine lv_dup hx hb dX11_nextToken_321 rfl ?_
                    refine va_get (D := D) (ci := 10) (v := .int (nI (q))) (C := RX11) (T := TX11) (N := 31) hx hb hts ni11 hown hK hP 0 (mw_c0 cy ad σ (mu_nu (mu_dg (mu_tk (mu_ta (mu_po T (nI q)) (nI (tB σ o))) (m_tk T)) (nI (q + 1 - tB σ o))) (nI (nmN (s_tx σ) (tB σ o) (q + 1 - tB σ o))))) rfl 6 (by decide) (hts _ flX11_63) (fun _ h => h) rfl dX11_nextToken_322 ?_
                    refine lv_iconst (v := nI 1) hx hb dX11_nextToken_325 (by decide) ?_
                    refine ln_iadd hx hb dX11_nextToken_326 ?_
                    refine ln_put (ci := 10) (C := RX11) (T := TX11) (N := 31) (ty := .int) (v := .int (nI (q + 1))) hx hb hts ni11 tyX11 tyX11_ok nmX11 hown hK hP hD hS 0 (mw_c0 cy ad σ (mu_nu (mu_dg (mu_tk (mu_ta (mu_po T (nI q)) (nI (tB σ o))) (m_tk T)) (nI (q + 1 - tB σ o))) (nI (nmN (s_tx σ) (tB σ o) (q + 1 - tB σ o))))) rfl 6 (by decide) (hts _ flX11_63) (fun _ h => h) rfl (by decide +kernel) rfl rfl (Nat.le_of_ble_eq_true rfl) ((mp_0_6 cy ad σ (mu_nu (mu_dg (mu_tk (mu_ta (mu_po T (nI q)) (nI (tB σ o))) (m_tk T)) (nI (q + 1 - tB σ o))) (nI (nmN (s_tx σ) (tB σ o) (q + 1 - tB σ o)))) (nI (q + 1))).trans (congrArg (fun z => mw cy ad σ z) (by rw [mx_po_nu, mx_po_dg, mx_po_tk, mx_po_ta, mc_po]))) dX11_nextToken_327 (fun H locs hP hD hS => ?_)
                    refine lv_goto (tgt := 241) hx hb dX11_nextToken_330 (by decide) ?_
                    first | exact ih (q + 1) _ _ (by omega) (by omega) (by omega) (all_s hbq hal c268) (rn_s hrn (by omega) c268) hP hD hS | (exfalso; omega)
                  · refine lv_bipush (v := nI 10) hx hb dX11_nextToken_280 (by decide) ?_
                    refine lv_aload_n hx hb dX11_nextToken_282 rfl (lv_at hl 0 rfl) ?_
                    refine va_get (D := D) (ci := 10) (v := .int (nI (nmN (s_tx σ) (tB σ o) (q - tB σ o)))) (C := RX11) (T := TX11) (N := 31) hx hb hts ni11 hown hK hP 0 (mw_c0 cy ad σ (mu_nu (mu_dg (mu_tk (mu_ta (mu_po T (nI q)) (nI (tB σ o))) (m_tk T)) (nI (q - tB σ o))) (nI (nmN (s_tx σ) (tB σ o) (q - tB σ o))))) rfl 10 (by decide) (hts _ flX11_72) (fun _ h => h) rfl dX11_nextToken_283 ?_
                    refine ln_imul hx hb dX11_nextToken_286 ?_
                    refine lv_aload_n hx hb dX11_nextToken_287 rfl (lv_at hl 0 rfl) ?_
                    refine va_get (D := D) (ci := 10) (v := .ref (ad 3)) (C := RX11) (T := TX11) (N := 31) hx hb hts ni11 hown hK hP 0 (mw_c0 cy ad σ (mu_nu (mu_dg (mu_tk (mu_ta (mu_po T (nI q)) (nI (tB σ o))) (m_tk T)) (nI (q - tB σ o))) (nI (nmN (s_tx σ) (tB σ o) (q - tB σ o))))) rfl 5 (by decide) (hts _ flX11_16) (fun _ h => h) rfl dX11_nextToken_288 ?_
                    refine lv_aload_n hx hb dX11_nextToken_291 rfl (lv_at hl 0 rfl) ?_
                    refine va_get (D := D) (ci := 10) (v := .int (nI (q))) (C := RX11) (T := TX11) (N := 31) hx hb hts ni11 hown hK hP 0 (mw_c0 cy ad σ (mu_nu (mu_dg (mu_tk (mu_ta (mu_po T (nI q)) (nI (tB σ o))) (m_tk T)) (nI (q - tB σ o))) (nI (nmN (s_tx σ) (tB σ o) (q - tB σ o))))) rfl 6 (by decide) (hts _ flX11_63) (fun _ h => h) rfl dX11_nextToken_292 ?_
                    refine ln_iald (v := (nI (s_tx σ q))) hx hb hK hP 3 (mw_c3 cy ad σ (mu_nu (mu_dg (mu_tk (mu_ta (mu_po T (nI q)) (nI (tB σ o))) (m_tk T)) (nI (q - tB σ o))) (nI (nmN (s_tx σ) (tB σ o) (q - tB σ o))))) (by omega) (by decide) rfl dX11_nextToken_295 ?_
                    refine ln_iadd hx hb dX11_nextToken_296 ?_
                    refine lv_bipush (v := nI 48) hx hb dX11_nextToken_297 (by decide) ?_
                    refine ln_isub hx hb dX11_nextToken_299 (by have := of_decide_eq_true c268; omega) ?_
                    refine lv_goto (tgt := 307) hx hb dX11_nextToken_300 (by decide) ?_
                    refine ln_nat (show ((10 * (nmN (s_tx σ) (tB σ o) (q - tB σ o))) + (s_tx σ q)) - 48 = nmN (s_tx σ) (tB σ o) (q + 1 - tB σ o) from nm_stepq hbq c277 c268) ?_
                    refine ln_put (ci := 10) (C := RX11) (T := TX11) (N := 31) (ty := .int) (v := .int (nI (nmN (s_tx σ) (tB σ o) (q + 1 - tB σ o)))) hx hb hts ni11 tyX11 tyX11_ok nmX11 hown hK hP hD hS 0 (mw_c0 cy ad σ (mu_nu (mu_dg (mu_tk (mu_ta (mu_po T (nI q)) (nI (tB σ o))) (m_tk T)) (nI (q - tB σ o))) (nI (nmN (s_tx σ) (tB σ o) (q - tB σ o))))) rfl 10 (by decide) (hts _ flX11_72) (fun _ h => h) rfl (by decide +kernel) rfl rfl (Nat.le_of_ble_eq_true rfl) ((mp_0_10 cy ad σ (mu_nu (mu_dg (mu_tk (mu_ta (mu_po T (nI q)) (nI (tB σ o))) (m_tk T)) (nI (q - tB σ o))) (nI (nmN (s_tx σ) (tB σ o) (q - tB σ o)))) (nI (nmN (s_tx σ) (tB σ o) (q + 1 - tB σ o)))).trans (congrArg (fun z => mw cy ad σ z) (by rw [mc_nu]))) dX11_nextToken_307 (fun H locs hP hD hS => ?_)
                    refine lv_aload_n hx hb dX11_nextToken_310 rfl (lv_at hl 0 rfl) ?_
                    refine lv_dup hx hb dX11_nextToken_311 rfl ?_
                    refine va_get (D := D) (ci := 10) (v := .int (nI (q - tB σ o))) (C := RX11) (T := TX11) (N := 31) hx hb hts ni11 hown hK hP 0 (mw_c0 cy ad σ (mu_nu (mu_dg (mu_tk (mu_ta (mu_po T (nI q)) (nI (tB σ o))) (m_tk T)) (nI (q - tB σ o))) (nI (nmN (s_tx σ) (tB σ o) (q + 1 - tB σ o))))) rfl 9 (by decide) (hts _ flX11_69) (fun _ h => h) rfl dX11_nextToken_312 ?_
                    refine lv_iconst (v := nI 1) hx hb dX11_nextToken_315 (by decide) ?_
                    refine ln_iadd hx hb dX11_nextToken_316 ?_
                    refine ln_nat (show (q - tB σ o) + 1 = q + 1 - tB σ o from by omega) ?_
                    refine ln_put (ci := 10) (C := RX11) (T := TX11) (N := 31) (ty := .int) (v := .int (nI (q + 1 - tB σ o))) hx hb hts ni11 tyX11 tyX11_ok nmX11 hown hK hP hD hS 0 (mw_c0 cy ad σ (mu_nu (mu_dg (mu_tk (mu_ta (mu_po T (nI q)) (nI (tB σ o))) (m_tk T)) (nI (q - tB σ o))) (nI (nmN (s_tx σ) (tB σ o) (q + 1 - tB σ o))))) rfl 9 (by decide) (hts _ flX11_69) (fun _ h => h) rfl (by decide +kernel) rfl rfl (Nat.le_of_ble_eq_true rfl) ((mp_0_9 cy ad σ (mu_nu (mu_dg (mu_tk (mu_ta (mu_po T (nI q)) (nI (tB σ o))) (m_tk T)) (nI (q - tB σ o))) (nI (nmN (s_tx σ) (tB σ o) (q + 1 - tB σ o)))) (nI (q + 1 - tB σ o))).trans (congrArg (fun z => mw cy ad σ z) (by rw [mx_dg_nu, mc_dg]))) dX11_nextToken_317 (fun H locs hP hD hS => ?_)
                    refine lv_aload_n hx hb dX11_nextToken_320 rfl (lv_at hl 0 rfl) ?_
                    refine lv_dup hx hb dX11_nextToken_321 rfl ?_
                    refine va_get (D := D) (ci := 10) (v := .int (nI (q))) (C := RX11) (T := TX11) (N := 31) hx hb hts ni11 hown hK hP 0 (mw_c0 cy ad σ (mu_nu (mu_dg (mu_tk (mu_ta (mu_po T (nI q)) (nI (tB σ o))) (m_tk T)) (nI (q + 1 - tB σ o))) (nI (nmN (s_tx σ) (tB σ o) (q + 1 - tB σ o))))) rfl 6 (by decide) (hts _ flX11_63) (fun _ h => h) rfl dX11_nextToken_322 ?_
                    refine lv_iconst (v := nI 1) hx hb dX11_nextToken_325 (by decide) ?_
                    refine ln_iadd hx hb dX11_nextToken_326 ?_
                    refine ln_put (ci := 10) (C := RX11) (T := TX11) (N := 31) (ty := .int) (v := .int (nI (q + 1))) hx hb hts ni11 tyX11 tyX11_ok nmX11 hown hK hP hD hS 0 (mw_c0 cy ad σ (mu_nu (mu_dg (mu_tk (mu_ta (mu_po T (nI q)) (nI (tB σ o))) (m_tk T)) (nI (q + 1 - tB σ o))) (nI (nmN (s_tx σ) (tB σ o) (q + 1 - tB σ o))))) rfl 6 (by decide) (hts _ flX11_63) (fun _ h => h) rfl (by decide +kernel) rfl rfl (Nat.le_of_ble_eq_true rfl) ((mp_0_6 cy ad σ (mu_nu (mu_dg (mu_tk (mu_ta (mu_po T (nI q)) (nI (tB σ o))) (m_tk T)) (nI (q + 1 - tB σ o))) (nI (nmN (s_tx σ) (tB σ o) (q + 1 - tB σ o)))) (nI (q + 1))).trans (congrArg (fun z => mw cy ad σ z) (by rw [mx_po_nu, mx_po_dg, mx_po_tk, mx_po_ta, mc_po]))) dX11_nextToken_327 (fun H locs hP hD hS => ?_)
                    refine lv_goto (tgt := 241) hx hb dX11_nextToken_330 (by decide) ?_
                    first | exact ih (q + 1) _ _ (by omega) (by omega) (by omega) (all_s hbq hal c268) (rn_s hrn (by omega) c268) hP hD hS | (exfalso; omega)
          exact hlq 201 (tB σ o) _ _ (by omega) hbl (Nat.le_refl _) (fun i hi => absurd hi (by omega)) rfl (by rw [Nat.sub_self]; exact hP) (by rw [Nat.sub_self]; exact hD) hS
      · refine lv_aload_n hx hb dX11_nextToken_96 rfl (lv_at hl 0 rfl) ?_
        refine lv_lconst (v := 0) hx hb dX11_nextToken_97 rfl ?_
        refine ln_put (ci := 10) (C := RX11) (T := TX11) (N := 31) (ty := .long) (v := .long (0)) hx hb hts ni11 tyX11 tyX11_ok nmX11 hown hK hP hD hS 0 (mw_c0 cy ad σ (mu_nu (mu_dg (mu_tk (mu_ta (mu_po T (nI (tB σ o))) (nI (tB σ o))) (m_tk T)) (nI (0))) (nI (0)))) rfl 8 (by decide) (hts _ flX11_77) (fun _ h => h) rfl (by decide +kernel) rfl rfl (Nat.le_of_ble_eq_true rfl) ((mp_0_8 cy ad σ (mu_nu (mu_dg (mu_tk (mu_ta (mu_po T (nI (tB σ o))) (nI (tB σ o))) (m_tk T)) (nI (0))) (nI (0))) 0).trans (congrArg (fun z => mw cy ad σ z) (by rw [mx_tk_nu, mx_tk_dg, mc_tk]))) dX11_nextToken_98 (fun H locs hP hD hS => ?_)
        have hA0 := hA
        have hend : ∀ (H : Heap) (locs : List Loc), va_P D vwCl (mw cy ad σ (mu_nu (mu_dg (mu_tk (mu_ta (mu_po T (nI (tLe σ (tB σ o)))) (nI (tB σ o))) (cdI (s_tx σ) (tB σ o) (tLe σ (tB σ o) - tB σ o))) (nI 0)) (nI 0))) H → va_D A (mw cy ad σ (mu_nu (mu_dg (mu_tk (mu_ta (mu_po T (nI (tLe σ (tB σ o)))) (nI (tB σ o))) (cdI (s_tx σ) (tB σ o) (tLe σ (tB σ o) - tB σ o))) (nI 0)) (nI 0))) → va_S A s.heap H locs → W p l e (headSpec qX11_nextToken (rq 2)).room s m ([.ref (ad 0)] : List Value).toArray below meth c H locs 0 0 (MQ below (va_Qv (fun u : Ms => tokP σ o T u) (fun u t => va_P D vwCl ((fun u : Ms => mw cy ad σ u) u) t.heap) A) ([.ref (ad 0)] : List Value).toArray s 0 0 A) (F0 m 191 ls []) := by
          intro H locs hP hD hS
          refine lv_aload_n hx hb dX11_nextToken_191 rfl (lv_at hl 0 rfl) ?_
          refine lv_aload_n hx hb dX11_nextToken_192 rfl (lv_at hl 0 rfl) ?_
          refine va_get (D := D) (ci := 10) (v := .int (nI (tLe σ (tB σ o)))) (C := RX11) (T := TX11) (N := 31) hx hb hts ni11 hown hK hP 0 (mw_c0 cy ad σ (mu_nu (mu_dg (mu_tk (mu_ta (mu_po T (nI (tLe σ (tB σ o)))) (nI (tB σ o))) (cdI (s_tx σ) (tB σ o) (tLe σ (tB σ o) - tB σ o))) (nI 0)) (nI 0))) rfl 6 (by decide) (hts _ flX11_63) (fun _ h => h) rfl dX11_nextToken_193 ?_
          refine lv_aload_n hx hb dX11_nextToken_196 rfl (lv_at hl 0 rfl) ?_
          refine va_get (D := D) (ci := 10) (v := .int (nI (tB σ o))) (C := RX11) (T := TX11) (N := 31) hx hb hts ni11 hown hK hP 0 (mw_c0 cy ad σ (mu_nu (mu_dg (mu_tk (mu_ta (mu_po T (nI (tLe σ (tB σ o)))) (nI (tB σ o))) (cdI (s_tx σ) (tB σ o) (tLe σ (tB σ o) - tB σ o))) (nI 0)) (nI 0))) rfl 7 (by decide) (hts _ flX11_66) (fun _ h => h) rfl dX11_nextToken_197 ?_
          refine ln_isub hx hb dX11_nextToken_200 (by omega) ?_
          refine lv_bipush (v := nI 9) hx hb dX11_nextToken_201 (by decide) ?_
          refine ln_icmp_le (tgt := 212) hx hb dX11_nextToken_203 (by decide) (by omega) (by omega) (fun c203 => ?_) (fun c203 => ?_)
          · refine lv_aload_n hx hb dX11_nextToken_212 rfl (lv_at hl 0 rfl) ?_
            refine va_get (D := D) (ci := 10) (v := .long ((cdI (s_tx σ) (tB σ o) (tLe σ (tB σ o) - tB σ o)))) (C := RX11) (T := TX11) (N := 31) hx hb hts ni11 hown hK hP 0 (mw_c0 cy ad σ (mu_nu (mu_dg (mu_tk (mu_ta (mu_po T (nI (tLe σ (tB σ o)))) (nI (tB σ o))) (cdI (s_tx σ) (tB σ o) (tLe σ (tB σ o) - tB σ o))) (nI 0)) (nI 0))) rfl 8 (by decide) (hts _ flX11_77) (fun _ h => h) rfl dX11_nextToken_213 ?_
            refine ln_put (ci := 10) (C := RX11) (T := TX11) (N := 31) (ty := .long) (v := .long ((cdI (s_tx σ) (tB σ o) (tLe σ (tB σ o) - tB σ o)))) hx hb hts ni11 tyX11 tyX11_ok nmX11 hown hK hP hD hS 0 (mw_c0 cy ad σ (mu_nu (mu_dg (mu_tk (mu_ta (mu_po T (nI (tLe σ (tB σ o)))) (nI (tB σ o))) (cdI (s_tx σ) (tB σ o) (tLe σ (tB σ o) - tB σ o))) (nI 0)) (nI 0))) rfl 8 (by decide) (hts _ flX11_77) (fun _ h => h) rfl (by decide +kernel) rfl rfl (Nat.le_of_ble_eq_true rfl) ((mp_0_8 cy ad σ (mu_nu (mu_dg (mu_tk (mu_ta (mu_po T (nI (tLe σ (tB σ o)))) (nI (tB σ o))) (cdI (s_tx σ) (tB σ o) (tLe σ (tB σ o) - tB σ o))) (nI 0)) (nI 0)) (cdI (s_tx σ) (tB σ o) (tLe σ (tB σ o) - tB σ o))).trans (congrArg (fun z => mw cy ad σ z) (by rw [mx_tk_nu, mx_tk_dg, mc_tk]))) dX11_nextToken_216 (fun H locs hP hD hS => ?_)
            refine lv_goto (tgt := 394) hx hb dX11_nextToken_219 (by decide) ?_
            exact rw_v hx hb hr hlocks hS (mu_nu (mu_dg (mu_tk (mu_ta (mu_po T (nI (tLe σ (tB σ o)))) (nI (tB σ o))) (cdI (s_tx σ) (tB σ o) (tLe σ (tB σ o) - tB σ o))) (nI 0)) (nI 0)) (by obtain ⟨e1, e2, e3⟩ := tok_L c64 c93; exact ⟨by rw [e1]; rfl, rfl, by rw [e2]; rfl, by rw [e3]; rfl, rfl, rfl, rfl, rfl, rfl⟩) hP dX11_nextToken_394
          · refine lv_ldc2 (v := -4) hx hb hown (hts _ cnX11_85) dX11_nextToken_206 ?_
            refine lv_goto (tgt := 216) hx hb dX11_nextToken_209 (by decide) ?_
            refine ln_put (ci := 10) (C := RX11) (T := TX11) (N := 31) (ty := .long) (v := .long (-4)) hx hb hts ni11 tyX11 tyX11_ok nmX11 hown hK hP hD hS 0 (mw_c0 cy ad σ (mu_nu (mu_dg (mu_tk (mu_ta (mu_po T (nI (tLe σ (tB σ o)))) (nI (tB σ o))) (cdI (s_tx σ) (tB σ o) (tLe σ (tB σ o) - tB σ o))) (nI 0)) (nI 0))) rfl 8 (by decide) (hts _ flX11_77) (fun _ h => h) rfl (by decide +kernel) rfl rfl (Nat.le_of_ble_eq_true rfl) ((mp_0_8 cy ad σ (mu_nu (mu_dg (mu_tk (mu_ta (mu_po T (nI (tLe σ (tB σ o)))) (nI (tB σ o))) (cdI (s_tx σ) (tB σ o) (tLe σ (tB σ o) - tB σ o))) (nI 0)) (nI 0)) (-4)).trans (congrArg (fun z => mw cy ad σ z) (by rw [mx_tk_nu, mx_tk_dg, mc_tk]))) dX11_nextToken_216 (fun H locs hP hD hS => ?_)
            refine lv_goto (tgt := 394) hx hb dX11_nextToken_219 (by decide) ?_
            exact rw_v hx hb hr hlocks hS (mu_nu (mu_dg (mu_tk (mu_ta (mu_po T (nI (tLe σ (tB σ o)))) (nI (tB σ o))) (-4)) (nI 0)) (nI 0)) (by obtain ⟨e1, e2, e3⟩ := tok_L c64 c93; exact ⟨by rw [e1]; rfl, rfl, by rw [e2, cdI, if_neg (by omega)]; rfl, by rw [e3]; rfl, rfl, rfl, rfl, rfl, rfl⟩) hP dX11_nextToken_394
        have hlq : ∀ (k q : Nat) (H : Heap) (locs : List Loc), s_ln σ ≤ q + k → q ≤ s_ln σ → tB σ o ≤ q → (∀ i, i < q - tB σ o → qL (s_tx σ (tB σ o + i)) = true) → rn (s_tx σ) (s_ln σ) qL k q = tLe σ (tB σ o) → va_P D vwCl (mw cy ad σ (mu_nu (mu_dg (mu_tk (mu_ta (mu_po T (nI q)) (nI (tB σ o))) (cdI (s_tx σ) (tB σ o) (q - tB σ o))) (nI 0)) (nI 0))) H → va_D A (mw cy ad σ (mu_nu (mu_dg (mu_tk (mu_ta (mu_po T (nI q)) (nI (tB σ o))) (cdI (s_tx σ) (tB σ o) (q - tB σ o))) (nI 0)) (nI 0))) → va_S A s.heap H locs → W p l e (headSpec qX11_nextToken (rq 2)).room s m ([.ref (ad 0)] : List Value).toArray below meth c H locs 0 0 (MQ below (va_Qv (fun u : Ms => tokP σ o T u) (fun u t => va_P D vwCl ((fun u : Ms => mw cy ad σ u) u) t.heap) A) ([.ref (ad 0)] : List Value).toArray s 0 0 A) (F0 m 101 ls []) := by
          intro k
          induction k with
          | zero =>
            intro q H locs hk hq hbq hal hrn hP hD hS
            have htq := htx q
            refine lv_aload_n hx hb dX11_nextToken_101 rfl (lv_at hl 0 rfl) ?_
            refine va_get (D := D) (ci := 10) (v := .int (nI (q))) (C := RX11) (T := TX11) (N := 31) hx hb hts ni11 hown hK hP 0 (mw_c0 cy ad σ (mu_nu (mu_dg (mu_tk (mu_ta (mu_po T (nI q)) (nI (tB σ o))) (cdI (s_tx σ) (tB σ o) (q - tB σ o))) (nI 0)) (nI 0))) rfl 6 (by decide) (hts _ flX11_63) (fun _ h => h) rfl dX11_nextToken_102 ?_
            refine lv_aload_n hx hb dX11_nextToken_105 rfl (lv_at hl 0 rfl) ?_
            refine va_get (D := D) (ci := 10) (v := .int (nI (s_ln σ))) (C := RX11) (T := TX11) (N := 31) hx hb hts ni11 hown hK hP 0 (mw_c0 cy ad σ (mu_nu (mu_dg (mu_tk (mu_ta (mu_po T (nI q)) (nI (tB σ o))) (cdI (s_tx σ) (tB σ o) (q - tB σ o))) (nI 0)) (nI 0))) rfl 4 (by decide) (hts _ flX11_58) (fun _ h => h) rfl dX11_nextToken_106 ?_
            refine ln_icmp_ge (tgt := 191) hx hb dX11_nextToken_109 (by decide) (by omega) (by omega) (fun c109 => ?_) (fun c109 => ?_)
            · have hqe : q = tLe σ (tB σ o) := by first | exact rn_e hrn (by omega) | exact rn_n hrn c128
              rw [hqe] at hP hD
              exact hend _ _ hP hD hS
            · refine lv_aload_n hx hb dX11_nextToken_112 rfl (lv_at hl 0 rfl) ?_
              refine va_get (D := D) (ci := 10) (v := .ref (ad 3)) (C := RX11) (T := TX11) (N := 31) hx hb hts ni11 hown hK hP 0 (mw_c0 cy ad σ (mu_nu (mu_dg (mu_tk (mu_ta (mu_po T (nI q)) (nI (tB σ o))) (cdI (s_tx σ) (tB σ o) (q - tB σ o))) (nI 0)) (nI 0))) rfl 5 (by decide) (hts _ flX11_16) (fun _ h => h) rfl dX11_nextToken_113 ?_
              refine lv_aload_n hx hb dX11_nextToken_116 rfl (lv_at hl 0 rfl) ?_
              refine va_get (D := D) (ci := 10) (v := .int (nI (q))) (C := RX11) (T := TX11) (N := 31) hx hb hts ni11 hown hK hP 0 (mw_c0 cy ad σ (mu_nu (mu_dg (mu_tk (mu_ta (mu_po T (nI q)) (nI (tB σ o))) (cdI (s_tx σ) (tB σ o) (q - tB σ o))) (nI 0)) (nI 0))) rfl 6 (by decide) (hts _ flX11_63) (fun _ h => h) rfl dX11_nextToken_117 ?_
              refine ln_iald (v := (nI (s_tx σ q))) hx hb hK hP 3 (mw_c3 cy ad σ (mu_nu (mu_dg (mu_tk (mu_ta (mu_po T (nI q)) (nI (tB σ o))) (cdI (s_tx σ) (tB σ o) (q - tB σ o))) (nI 0)) (nI 0))) (by omega) (by decide) rfl dX11_nextToken_120 ?_
              refine lv_bipush (v := nI 97) hx hb dX11_nextToken_121 (by decide) ?_
              refine lv_bipush (v := nI 122) hx hb dX11_nextToken_123 (by decide) ?_
              refine cr_s (n := 3) (As := [.int (nI (s_tx σ q)), .int (nI (97)), .int (nI (122))]) (rest := []) ⟨hx, hb, hml, hown, hts⟩ (k_X11_in l (nI (s_tx σ q)) (nI (97)) (nI (122))) gsX11_51 (by decide +kernel) ⟨Nat.le_of_ble_eq_true rfl, Nat.le_of_ble_eq_true rfl⟩ rfl hl.1 rfl (Nat.le_of_ble_eq_true rfl) dX11_nextToken_125 ⟨Nat.zero_le _, Nat.zero_le _⟩ ?_
              refine ln_eq (show (bI (decide ((nI (97)) ≤ (nI (s_tx σ q)) ∧ (nI (s_tx σ q)) ≤ (nI (122))))) = (bI (qL (s_tx σ (q)))) from congrArg bI (in_qL (htx _))) ?_
              refine lb_if_eq (tgt := 191) hx hb dX11_nextToken_128 (by decide) (fun c128 => ?_) (fun c128 => ?_)
              · have hqe : q = tLe σ (tB σ o) := by first | exact rn_e hrn (by omega) | exact rn_n hrn c128
                rw [hqe] at hP hD
                exact hend _ _ hP hD hS
              · refine lv_aload_n hx hb dX11_nextToken_131 rfl (lv_at hl 0 rfl) ?_
                refine lv_aload_n hx hb dX11_nextToken_132 rfl (lv_at hl 0 rfl) ?_
                refine va_get (D := D) (ci := 10) (v := .int (nI (q))) (C := RX11) (T := TX11) (N := 31) hx hb hts ni11 hown hK hP 0 (mw_c0 cy ad σ (mu_nu (mu_dg (mu_tk (mu_ta (mu_po T (nI q)) (nI (tB σ o))) (cdI (s_tx σ) (tB σ o) (q - tB σ o))) (nI 0)) (nI 0))) rfl 6 (by decide) (hts _ flX11_63) (fun _ h => h) rfl dX11_nextToken_133 ?_
                refine lv_aload_n hx hb dX11_nextToken_136 rfl (lv_at hl 0 rfl) ?_
                refine va_get (D := D) (ci := 10) (v := .int (nI (tB σ o))) (C := RX11) (T := TX11) (N := 31) hx hb hts ni11 hown hK hP 0 (mw_c0 cy ad σ (mu_nu (mu_dg (mu_tk (mu_ta (mu_po T (nI q)) (nI (tB σ o))) (cdI (s_tx σ) (tB σ o) (q - tB σ o))) (nI 0)) (nI 0))) rfl 7 (by decide) (hts _ flX11_66) (fun _ h => h) rfl dX11_nextToken_137 ?_
                refine ln_isub hx hb dX11_nextToken_140 (by omega) ?_
                refine lv_bipush (v := nI 9) hx hb dX11_nextToken_141 (by decide) ?_
                refine ln_icmp_ge (tgt := 172) hx hb dX11_nextToken_143 (by decide) (by omega) (by omega) (fun c143 => ?_) (fun c143 => ?_)
                · refine lv_ldc2 (v := -4) hx hb hown (hts _ cnX11_85) dX11_nextToken_172 ?_
                  refine ll_eq (show (-4 : Int64) = cdI (s_tx σ) (tB σ o) (q + 1 - tB σ o) from cd_overq hbq c143) ?_
                  refine ln_put (ci := 10) (C := RX11) (T := TX11) (N := 31) (ty := .long) (v := .long (cdI (s_tx σ) (tB σ o) (q + 1 - tB σ o))) hx hb hts ni11 tyX11 tyX11_ok nmX11 hown hK hP hD hS 0 (mw_c0 cy ad σ (mu_nu (mu_dg (mu_tk (mu_ta (mu_po T (nI q)) (nI (tB σ o))) (cdI (s_tx σ) (tB σ o) (q - tB σ o))) (nI 0)) (nI 0))) rfl 8 (by decide) (hts _ flX11_77) (fun _ h => h) rfl (by decide +kernel) rfl rfl (Nat.le_of_ble_eq_true rfl) ((mp_0_8 cy ad σ (mu_nu (mu_dg (mu_tk (mu_ta (mu_po T (nI q)) (nI (tB σ o))) (cdI (s_tx σ) (tB σ o) (q - tB σ o))) (nI 0)) (nI 0)) (cdI (s_tx σ) (tB σ o) (q + 1 - tB σ o))).trans (congrArg (fun z => mw cy ad σ z) (by rw [mx_tk_nu, mx_tk_dg, mc_tk]))) dX11_nextToken_175 (fun H locs hP hD hS => ?_)
                  refine lv_aload_n hx hb dX11_nextToken_178 rfl (lv_at hl 0 rfl) ?_
                  refine lv_dup hx hb dX11_nextToken_179 rfl ?_
                  refine va_get (D := D) (ci := 10) (v := .int (nI (q))) (C := RX11) (T := TX11) (N := 31) hx hb hts ni11 hown hK hP 0 (mw_c0 cy ad σ (mu_nu (mu_dg (mu_tk (mu_ta (mu_po T (nI q)) (nI (tB σ o))) (cdI (s_tx σ) (tB σ o) (q + 1 - tB σ o))) (nI 0)) (nI 0))) rfl 6 (by decide) (hts _ flX11_63) (fun _ h => h) rfl dX11_nextToken_180 ?_
                  refine lv_iconst (v := nI 1) hx hb dX11_nextToken_183 (by decide) ?_
                  refine ln_iadd hx hb dX11_nextToken_184 ?_
                  refine ln_put (ci := 10) (C := RX11) (T := TX11) (N := 31) (ty := .int) (v := .int (nI (q + 1))) hx hb hts ni11 tyX11 tyX11_ok nmX11 hown hK hP hD hS 0 (mw_c0 cy ad σ (mu_nu (mu_dg (mu_tk (mu_ta (mu_po T (nI q)) (nI (tB σ o))) (cdI (s_tx σ) (tB σ o) (q + 1 - tB σ o))) (nI 0)) (nI 0))) rfl 6 (by decide) (hts _ flX11_63) (fun _ h => h) rfl (by decide +kernel) rfl rfl (Nat.le_of_ble_eq_true rfl) ((mp_0_6 cy ad σ (mu_nu (mu_dg (mu_tk (mu_ta (mu_po T (nI q)) (nI (tB σ o))) (cdI (s_tx σ) (tB σ o) (q + 1 - tB σ o))) (nI 0)) (nI 0)) (nI (q + 1))).trans (congrArg (fun z => mw cy ad σ z) (by rw [mx_po_nu, mx_po_dg, mx_po_tk, mx_po_ta, mc_po]))) dX11_nextToken_185 (fun H locs hP hD hS => ?_)
                  refine lv_goto (tgt := 101) hx hb dX11_nextToken_188 (by decide) ?_
                  first | exact ih (q + 1) _ _ (by omega) (by omega) (by omega) (all_s hbq hal c128) (rn_s hrn (by omega) c128) hP hD hS | (exfalso; omega)
                · refine lv_ldc2 (v := 27) hx hb hown (hts _ cnX11_81) dX11_nextToken_146 ?_
                  refine lv_aload_n hx hb dX11_nextToken_149 rfl (lv_at hl 0 rfl) ?_
                  refine va_get (D := D) (ci := 10) (v := .long ((cdI (s_tx σ) (tB σ o) (q - tB σ o)))) (C := RX11) (T := TX11) (N := 31) hx hb hts ni11 hown hK hP 0 (mw_c0 cy ad σ (mu_nu (mu_dg (mu_tk (mu_ta (mu_po T (nI q)) (nI (tB σ o))) (cdI (s_tx σ) (tB σ o) (q - tB σ o))) (nI 0)) (nI 0))) rfl 8 (by decide) (hts _ flX11_77) (fun _ h => h) rfl dX11_nextToken_150 ?_
                  refine lv_lmul hx hb dX11_nextToken_153 ?_
                  refine lv_aload_n hx hb dX11_nextToken_154 rfl (lv_at hl 0 rfl) ?_
                  refine va_get (D := D) (ci := 10) (v := .ref (ad 3)) (C := RX11) (T := TX11) (N := 31) hx hb hts ni11 hown hK hP 0 (mw_c0 cy ad σ (mu_nu (mu_dg (mu_tk (mu_ta (mu_po T (nI q)) (nI (tB σ o))) (cdI (s_tx σ) (tB σ o) (q - tB σ o))) (nI 0)) (nI 0))) rfl 5 (by decide) (hts _ flX11_16) (fun _ h => h) rfl dX11_nextToken_155 ?_
                  refine lv_aload_n hx hb dX11_nextToken_158 rfl (lv_at hl 0 rfl) ?_
                  refine va_get (D := D) (ci := 10) (v := .int (nI (q))) (C := RX11) (T := TX11) (N := 31) hx hb hts ni11 hown hK hP 0 (mw_c0 cy ad σ (mu_nu (mu_dg (mu_tk (mu_ta (mu_po T (nI q)) (nI (tB σ o))) (cdI (s_tx σ) (tB σ o) (q - tB σ o))) (nI 0)) (nI 0))) rfl 6 (by decide) (hts _ flX11_63) (fun _ h => h) rfl dX11_nextToken_159 ?_
                  refine ln_iald (v := (nI (s_tx σ q))) hx hb hK hP 3 (mw_c3 cy ad σ (mu_nu (mu_dg (mu_tk (mu_ta (mu_po T (nI q)) (nI (tB σ o))) (cdI (s_tx σ) (tB σ o) (q - tB σ o))) (nI 0)) (nI 0))) (by omega) (by decide) rfl dX11_nextToken_162 ?_
                  refine lv_i2l (v := (nI (s_tx σ q)).toInt64) hx hb dX11_nextToken_163 rfl ?_
                  refine lv_ladd hx hb dX11_nextToken_164 ?_
                  refine lv_ldc2 (v := 96) hx hb hown (hts _ cnX11_83) dX11_nextToken_165 ?_
                  refine lv_lsub hx hb dX11_nextToken_168 ?_
                  refine lv_goto (tgt := 175) hx hb dX11_nextToken_169 (by decide) ?_
                  refine ll_eq (show (((27 * (cdI (s_tx σ) (tB σ o) (q - tB σ o))) + ((nI (s_tx σ q)).toInt64)) - 96 : Int64) = cdI (s_tx σ) (tB σ o) (q + 1 - tB σ o) from cd_stepq hbq hal c143 c128 htq) ?_
                  refine ln_put (ci := 10) (C := RX11) (T := TX11) (N := 31) (ty := .long) (v := .long (cdI (s_tx σ) (tB σ o) (q + 1 - tB σ o))) hx hb hts ni11 tyX11 tyX11_ok nmX11 hown hK hP hD hS 0 (mw_c0 cy ad σ (mu_nu (mu_dg (mu_tk (mu_ta (mu_po T (nI q)) (nI (tB σ o))) (cdI (s_tx σ) (tB σ o) (q - tB σ o))) (nI 0)) (nI 0))) rfl 8 (by decide) (hts _ flX11_77) (fun _ h => h) rfl (by decide +kernel) rfl rfl (Nat.le_of_ble_eq_true rfl) ((mp_0_8 cy ad σ (mu_nu (mu_dg (mu_tk (mu_ta (mu_po T (nI q)) (nI (tB σ o))) (cdI (s_tx σ) (tB σ o) (q - tB σ o))) (nI 0)) (nI 0)) (cdI (s_tx σ) (tB σ o) (q + 1 - tB σ o))).trans (congrArg (fun z => mw cy ad σ z) (by rw [mx_tk_nu, mx_tk_dg, mc_tk]))) dX11_nextToken_175 (fun H locs hP hD hS => ?_)
                  refine lv_aload_n hx hb dX11_nextToken_178 rfl (lv_at hl 0 rfl) ?_
                  refine lv_dup hx hb dX11_nextToken_179 rfl ?_
                  refine va_get (D := D) (ci := 10) (v := .int (nI (q))) (C := RX11) (T := TX11) (N := 31) hx hb hts ni11 hown hK hP 0 (mw_c0 cy ad σ (mu_nu (mu_dg (mu_tk (mu_ta (mu_po T (nI q)) (nI (tB σ o))) (cdI (s_tx σ) (tB σ o) (q + 1 - tB σ o))) (nI 0)) (nI 0))) rfl 6 (by decide) (hts _ flX11_63) (fun _ h => h) rfl dX11_nextToken_180 ?_
                  refine lv_iconst (v := nI 1) hx hb dX11_nextToken_183 (by decide) ?_
                  refine ln_iadd hx hb dX11_nextToken_184 ?_
                  refine ln_put (ci := 10) (C := RX11) (T := TX11) (N := 31) (ty := .int) (v := .int (nI (q + 1))) hx hb hts ni11 tyX11 tyX11_ok nmX11 hown hK hP hD hS 0 (mw_c0 cy ad σ (mu_nu (mu_dg (mu_tk (mu_ta (mu_po T (nI q)) (nI (tB σ o))) (cdI (s_tx σ) (tB σ o) (q + 1 - tB σ o))) (nI 0)) (nI 0))) rfl 6 (by decide) (hts _ flX11_63) (fun _ h => h) rfl (by decide +kernel) rfl rfl (Nat.le_of_ble_eq_true rfl) ((mp_0_6 cy ad σ (mu_nu (mu_dg (mu_tk (mu_ta (mu_po T (nI q)) (nI (tB σ o))) (cdI (s_tx σ) (tB σ o) (q + 1 - tB σ o))) (nI 0)) (nI 0)) (nI (q + 1))).trans (congrArg (fun z => mw cy ad σ z) (by rw [mx_po_nu, mx_po_dg, mx_po_tk, mx_po_ta, mc_po]))) dX11_nextToken_185 (fun H locs hP hD hS => ?_)
                  refine lv_goto (tgt := 101) hx hb dX11_nextToken_188 (by decide) ?_
                  first | exact ih (q + 1) _ _ (by omega) (by omega) (by omega) (all_s hbq hal c128) (rn_s hrn (by omega) c128) hP hD hS | (exfalso; omega)
          | succ k ih =>
            intro q H locs hk hq hbq hal hrn hP hD hS
            have htq := htx q
            refine lv_aload_n hx hb dX11_nextToken_101 rfl (lv_at hl 0 rfl) ?_
            refine va_get (D := D) (ci := 10) (v := .int (nI (q))) (C := RX11) (T := TX11) (N := 31) hx hb hts ni11 hown hK hP 0 (mw_c0 cy ad σ (mu_nu (mu_dg (mu_tk (mu_ta (mu_po T (nI q)) (nI (tB σ o))) (cdI (s_tx σ) (tB σ o) (q - tB σ o))) (nI 0)) (nI 0))) rfl 6 (by decide) (hts _ flX11_63) (fun _ h => h) rfl dX11_nextToken_102 ?_
            refine lv_aload_n hx hb dX11_nextToken_105 rfl (lv_at hl 0 rfl) ?_
            refine va_get (D := D) (ci := 10) (v := .int (nI (s_ln σ))) (C := RX11) (T := TX11) (N := 31) hx hb hts ni11 hown hK hP 0 (mw_c0 cy ad σ (mu_nu (mu_dg (mu_tk (mu_ta (mu_po T (nI q)) (nI (tB σ o))) (cdI (s_tx σ) (tB σ o) (q - tB σ o))) (nI 0)) (nI 0))) rfl 4 (by decide) (hts _ flX11_58) (fun _ h => h) rfl dX11_nextToken_106 ?_
            refine ln_icmp_ge (tgt := 191) hx hb dX11_nextToken_109 (by decide) (by omega) (by omega) (fun c109 => ?_) (fun c109 => ?_)
            · have hqe : q = tLe σ (tB σ o) := by first | exact rn_e hrn (by omega) | exact rn_n hrn c128
              rw [hqe] at hP hD
              exact hend _ _ hP hD hS
            · refine lv_aload_n hx hb dX11_nextToken_112 rfl (lv_at hl 0 rfl) ?_
              refine va_get (D := D) (ci := 10) (v := .ref (ad 3)) (C := RX11) (T := TX11) (N := 31) hx hb hts ni11 hown hK hP 0 (mw_c0 cy ad σ (mu_nu (mu_dg (mu_tk (mu_ta (mu_po T (nI q)) (nI (tB σ o))) (cdI (s_tx σ) (tB σ o) (q - tB σ o))) (nI 0)) (nI 0))) rfl 5 (by decide) (hts _ flX11_16) (fun _ h => h) rfl dX11_nextToken_113 ?_
              refine lv_aload_n hx hb dX11_nextToken_116 rfl (lv_at hl 0 rfl) ?_
              refine va_get (D := D) (ci := 10) (v := .int (nI (q))) (C := RX11) (T := TX11) (N := 31) hx hb hts ni11 hown hK hP 0 (mw_c0 cy ad σ (mu_nu (mu_dg (mu_tk (mu_ta (mu_po T (nI q)) (nI (tB σ o))) (cdI (s_tx σ) (tB σ o) (q - tB σ o))) (nI 0)) (nI 0))) rfl 6 (by decide) (hts _ flX11_63) (fun _ h => h) rfl dX11_nextToken_117 ?_
              refine ln_iald (v := (nI (s_tx σ q))) hx hb hK hP 3 (mw_c3 cy ad σ (mu_nu (mu_dg (mu_tk (mu_ta (mu_po T (nI q)) (nI (tB σ o))) (cdI (s_tx σ) (tB σ o) (q - tB σ o))) (nI 0)) (nI 0))) (by omega) (by decide) rfl dX11_nextToken_120 ?_
              refine lv_bipush (v := nI 97) hx hb dX11_nextToken_121 (by decide) ?_
              refine lv_bipush (v := nI 122) hx hb dX11_nextToken_123 (by decide) ?_
              refine cr_s (n := 3) (As := [.int (nI (s_tx σ q)), .int (nI (97)), .int (nI (122))]) (rest := []) ⟨hx, hb, hml, hown, hts⟩ (k_X11_in l (nI (s_tx σ q)) (nI (97)) (nI (122))) gsX11_51 (by decide +kernel) ⟨Nat.le_of_ble_eq_true rfl, Nat.le_of_ble_eq_true rfl⟩ rfl hl.1 rfl (Nat.le_of_ble_eq_true rfl) dX11_nextToken_125 ⟨Nat.zero_le _, Nat.zero_le _⟩ ?_
              refine ln_eq (show (bI (decide ((nI (97)) ≤ (nI (s_tx σ q)) ∧ (nI (s_tx σ q)) ≤ (nI (122))))) = (bI (qL (s_tx σ (q)))) from congrArg bI (in_qL (htx _))) ?_
              refine lb_if_eq (tgt := 191) hx hb dX11_nextToken_128 (by decide) (fun c128 => ?_) (fun c128 => ?_)
              · have hqe : q = tLe σ (tB σ o) := by first | exact rn_e hrn (by omega) | exact rn_n hrn c128
                rw [hqe] at hP hD
                exact hend _ _ hP hD hS
              · refine lv_aload_n hx hb dX11_nextToken_131 rfl (lv_at hl 0 rfl) ?_
                refine lv_aload_n hx hb dX11_nextToken_132 rfl (lv_at hl 0 rfl) ?_
                refine va_get (D := D) (ci := 10) (v := .int (nI (q))) (C := RX11) (T := TX11) (N := 31) hx hb hts ni11 hown hK hP 0 (mw_c0 cy ad σ (mu_nu (mu_dg (mu_tk (mu_ta (mu_po T (nI q)) (nI (tB σ o))) (cdI (s_tx σ) (tB σ o) (q - tB σ o))) (nI 0)) (nI 0))) rfl 6 (by decide) (hts _ flX11_63) (fun _ h => h) rfl dX11_nextToken_133 ?_
                refine lv_aload_n hx hb dX11_nextToken_136 rfl (lv_at hl 0 rfl) ?_
                refine va_get (D := D) (ci := 10) (v := .int (nI (tB σ o))) (C := RX11) (T := TX11) (N := 31) hx hb hts ni11 hown hK hP 0 (mw_c0 cy ad σ (mu_nu (mu_dg (mu_tk (mu_ta (mu_po T (nI q)) (nI (tB σ o))) (cdI (s_tx σ) (tB σ o) (q - tB σ o))) (nI 0)) (nI 0))) rfl 7 (by decide) (hts _ flX11_66) (fun _ h => h) rfl dX11_nextToken_137 ?_
                refine ln_isub hx hb dX11_nextToken_140 (by omega) ?_
                refine lv_bipush (v := nI 9) hx hb dX11_nextToken_141 (by decide) ?_
                refine ln_icmp_ge (tgt := 172) hx hb dX11_nextToken_143 (by decide) (by omega) (by omega) (fun c143 => ?_) (fun c143 => ?_)
                · refine lv_ldc2 (v := -4) hx hb hown (hts _ cnX11_85) dX11_nextToken_172 ?_
                  refine ll_eq (show (-4 : Int64) = cdI (s_tx σ) (tB σ o) (q + 1 - tB σ o) from cd_overq hbq c143) ?_
                  refine ln_put (ci := 10) (C := RX11) (T := TX11) (N := 31) (ty := .long) (v := .long (cdI (s_tx σ) (tB σ o) (q + 1 - tB σ o))) hx hb hts ni11 tyX11 tyX11_ok nmX11 hown hK hP hD hS 0 (mw_c0 cy ad σ (mu_nu (mu_dg (mu_tk (mu_ta (mu_po T (nI q)) (nI (tB σ o))) (cdI (s_tx σ) (tB σ o) (q - tB σ o))) (nI 0)) (nI 0))) rfl 8 (by decide) (hts _ flX11_77) (fun _ h => h) rfl (by decide +kernel) rfl rfl (Nat.le_of_ble_eq_true rfl) ((mp_0_8 cy ad σ (mu_nu (mu_dg (mu_tk (mu_ta (mu_po T (nI q)) (nI (tB σ o))) (cdI (s_tx σ) (tB σ o) (q - tB σ o))) (nI 0)) (nI 0)) (cdI (s_tx σ) (tB σ o) (q + 1 - tB σ o))).trans (congrArg (fun z => mw cy ad σ z) (by rw [mx_tk_nu, mx_tk_dg, mc_tk]))) dX11_nextToken_175 (fun H locs hP hD hS => ?_)
                  refine lv_aload_n hx hb dX11_nextToken_178 rfl (lv_at hl 0 rfl) ?_
                  refine lv_dup hx hb dX11_nextToken_179 rfl ?_
                  refine va_get (D := D) (ci := 10) (v := .int (nI (q))) (C := RX11) (T := TX11) (N := 31) hx hb hts ni11 hown hK hP 0 (mw_c0 cy ad σ (mu_nu (mu_dg (mu_tk (mu_ta (mu_po T (nI q)) (nI (tB σ o))) (cdI (s_tx σ) (tB σ o) (q + 1 - tB σ o))) (nI 0)) (nI 0))) rfl 6 (by decide) (hts _ flX11_63) (fun _ h => h) rfl dX11_nextToken_180 ?_
                  refine lv_iconst (v := nI 1) hx hb dX11_nextToken_183 (by decide) ?_
                  refine ln_iadd hx hb dX11_nextToken_184 ?_
                  refine ln_put (ci := 10) (C := RX11) (T := TX11) (N := 31) (ty := .int) (v := .int (nI (q + 1))) hx hb hts ni11 tyX11 tyX11_ok nmX11 hown hK hP hD hS 0 (mw_c0 cy ad σ (mu_nu (mu_dg (mu_tk (mu_ta (mu_po T (nI q)) (nI (tB σ o))) (cdI (s_tx σ) (tB σ o) (q + 1 - tB σ o))) (nI 0)) (nI 0))) rfl 6 (by decide) (hts _ flX11_63) (fun _ h => h) rfl (by decide +kernel) rfl rfl (Nat.le_of_ble_eq_true rfl) ((mp_0_6 cy ad σ (mu_nu (mu_dg (mu_tk (mu_ta (mu_po T (nI q)) (nI (tB σ o))) (cdI (s_tx σ) (tB σ o) (q + 1 - tB σ o))) (nI 0)) (nI 0)) (nI (q + 1))).trans (congrArg (fun z => mw cy ad σ z) (by rw [mx_po_nu, mx_po_dg, mx_po_tk, mx_po_ta, mc_po]))) dX11_nextToken_185 (fun H locs hP hD hS => ?_)
                  refine lv_goto (tgt := 101) hx hb dX11_nextToken_188 (by decide) ?_
                  first | exact ih (q + 1) _ _ (by omega) (by omega) (by omega) (all_s hbq hal c128) (rn_s hrn (by omega) c128) hP hD hS | (exfalso; omega)
                · refine lv_ldc2 (v := 27) hx hb hown (hts _ cnX11_81) dX11_nextToken_146 ?_
                  refine lv_aload_n hx hb dX11_nextToken_149 rfl (lv_at hl 0 rfl) ?_
                  refine va_get (D := D) (ci := 10) (v := .long ((cdI (s_tx σ) (tB σ o) (q - tB σ o)))) (C := RX11) (T := TX11) (N := 31) hx hb hts ni11 hown hK hP 0 (mw_c0 cy ad σ (mu_nu (mu_dg (mu_tk (mu_ta (mu_po T (nI q)) (nI (tB σ o))) (cdI (s_tx σ) (tB σ o) (q - tB σ o))) (nI 0)) (nI 0))) rfl 8 (by decide) (hts _ flX11_77) (fun _ h => h) rfl dX11_nextToken_150 ?_
                  refine lv_lmul hx hb dX11_nextToken_153 ?_
                  refine lv_aload_n hx hb dX11_nextToken_154 rfl (lv_at hl 0 rfl) ?_
                  refine va_get (D := D) (ci := 10) (v := .ref (ad 3)) (C := RX11) (T := TX11) (N := 31) hx hb hts ni11 hown hK hP 0 (mw_c0 cy ad σ (mu_nu (mu_dg (mu_tk (mu_ta (mu_po T (nI q)) (nI (tB σ o))) (cdI (s_tx σ) (tB σ o) (q - tB σ o))) (nI 0)) (nI 0))) rfl 5 (by decide) (hts _ flX11_16) (fun _ h => h) rfl dX11_nextToken_155 ?_
                  refine lv_aload_n hx hb dX11_nextToken_158 rfl (lv_at hl 0 rfl) ?_
                  refine va_get (D := D) (ci := 10) (v := .int (nI (q))) (C := RX11) (T := TX11) (N := 31) hx hb hts ni11 hown hK hP 0 (mw_c0 cy ad σ (mu_nu (mu_dg (mu_tk (mu_ta (mu_po T (nI q)) (nI (tB σ o))) (cdI (s_tx σ) (tB σ o) (q - tB σ o))) (nI 0)) (nI 0))) rfl 6 (by decide) (hts _ flX11_63) (fun _ h => h) rfl dX11_nextToken_159 ?_
                  refine ln_iald (v := (nI (s_tx σ q))) hx hb hK hP 3 (mw_c3 cy ad σ (mu_nu (mu_dg (mu_tk (mu_ta (mu_po T (nI q)) (nI (tB σ o))) (cdI (s_tx σ) (tB σ o) (q - tB σ o))) (nI 0)) (nI 0))) (by omega) (by decide) rfl dX11_nextToken_162 ?_
                  refine lv_i2l (v := (nI (s_tx σ q)).toInt64) hx hb dX11_nextToken_163 rfl ?_
                  refine lv_ladd hx hb dX11_nextToken_164 ?_
                  refine lv_ldc2 (v := 96) hx hb hown (hts _ cnX11_83) dX11_nextToken_165 ?_
                  refine lv_lsub hx hb dX11_nextToken_168 ?_
                  refine lv_goto (tgt := 175) hx hb dX11_nextToken_169 (by decide) ?_
                  refine ll_eq (show (((27 * (cdI (s_tx σ) (tB σ o) (q - tB σ o))) + ((nI (s_tx σ q)).toInt64)) - 96 : Int64) = cdI (s_tx σ) (tB σ o) (q + 1 - tB σ o) from cd_stepq hbq hal c143 c128 htq) ?_
                  refine ln_put (ci := 10) (C := RX11) (T := TX11) (N := 31) (ty := .long) (v := .long (cdI (s_tx σ) (tB σ o) (q + 1 - tB σ o))) hx hb hts ni11 tyX11 tyX11_ok nmX11 hown hK hP hD hS 0 (mw_c0 cy ad σ (mu_nu (mu_dg (mu_tk (mu_ta (mu_po T (nI q)) (nI (tB σ o))) (cdI (s_tx σ) (tB σ o) (q - tB σ o))) (nI 0)) (nI 0))) rfl 8 (by decide) (hts _ flX11_77) (fun _ h => h) rfl (by decide +kernel) rfl rfl (Nat.le_of_ble_eq_true rfl) ((mp_0_8 cy ad σ (mu_nu (mu_dg (mu_tk (mu_ta (mu_po T (nI q)) (nI (tB σ o))) (cdI (s_tx σ) (tB σ o) (q - tB σ o))) (nI 0)) (nI 0)) (cdI (s_tx σ) (tB σ o) (q + 1 - tB σ o))).trans (congrArg (fun z => mw cy ad σ z) (by rw [mx_tk_nu, mx_tk_dg, mc_tk]))) dX11_nextToken_175 (fun H locs hP hD hS => ?_)
                  refine lv_aload_n hx hb dX11_nextToken_178 rfl (lv_at hl 0 rfl) ?_
                  refine lv_dup hx hb dX11_nextToken_179 rfl ?_
                  refine va_get (D := D) (ci := 10) (v := .int (nI (q))) (C := RX11) (T := TX11) (N := 31) hx hb hts ni11 hown hK hP 0 (mw_c0 cy ad σ (mu_nu (mu_dg (mu_tk (mu_ta (mu_po T (nI q)) (nI (tB σ o))) (cdI (s_tx σ) (tB σ o) (q + 1 - tB σ o))) (nI 0)) (nI 0))) rfl 6 (by decide) (hts _ flX11_63) (fun _ h => h) rfl dX11_nextToken_180 ?_
                  refine lv_iconst (v := nI 1) hx hb dX11_nextToken_183 (by decide) ?_
                  refine ln_iadd hx hb dX11_nextToken_184 ?_
                  refine ln_put (ci := 10) (C := RX11) (T := TX11) (N := 31) (ty := .int) (v := .int (nI (q + 1))) hx hb hts ni11 tyX11 tyX11_ok nmX11 hown hK hP hD hS 0 (mw_c0 cy ad σ (mu_nu (mu_dg (mu_tk (mu_ta (mu_po T (nI q)) (nI (tB σ o))) (cdI (s_tx σ) (tB σ o) (q + 1 - tB σ o))) (nI 0)) (nI 0))) rfl 6 (by decide) (hts _ flX11_63) (fun _ h => h) rfl (by decide +kernel) rfl rfl (Nat.le_of_ble_eq_true rfl) ((mp_0_6 cy ad σ (mu_nu (mu_dg (mu_tk (mu_ta (mu_po T (nI q)) (nI (tB σ o))) (cdI (s_tx σ) (tB σ o) (q + 1 - tB σ o))) (nI 0)) (nI 0)) (nI (q + 1))).trans (congrArg (fun z => mw cy ad σ z) (by rw [mx_po_nu, mx_po_dg, mx_po_tk, mx_po_ta, mc_po]))) dX11_nextToken_185 (fun H locs hP hD hS => ?_)
                  refine lv_goto (tgt := 101) hx hb dX11_nextToken_188 (by decide) ?_
                  first | exact ih (q + 1) _ _ (by omega) (by omega) (by omega) (all_s hbq hal c128) (rn_s hrn (by omega) c128) hP hD hS | (exfalso; omega)
        exact hlq 201 (tB σ o) _ _ (by omega) hbl (Nat.le_refl _) (fun i hi => absurd hi (by omega)) rfl (by rw [Nat.sub_self]; exact hP) (by rw [Nat.sub_self]; exact hD) hS
    · refine lv_aload_n hx hb dX11_nextToken_67 rfl (lv_at hl 0 rfl) ?_
      refine lv_ldc2 (v := -2) hx hb hown (hts _ cnX11_75) dX11_nextToken_68 ?_
      refine ln_put (ci := 10) (C := RX11) (T := TX11) (N := 31) (ty := .long) (v := .long (-2)) hx hb hts ni11 tyX11 tyX11_ok nmX11 hown hK hP hD hS 0 (mw_c0 cy ad σ (mu_nu (mu_dg (mu_tk (mu_ta (mu_po T (nI (tB σ o))) (nI (tB σ o))) (m_tk T)) (nI (0))) (nI (0)))) rfl 8 (by decide) (hts _ flX11_77) (fun _ h => h) rfl (by decide +kernel) rfl rfl (Nat.le_of_ble_eq_true rfl) ((mp_0_8 cy ad σ (mu_nu (mu_dg (mu_tk (mu_ta (mu_po T (nI (tB σ o))) (nI (tB σ o))) (m_tk T)) (nI (0))) (nI (0))) (-2)).trans (congrArg (fun z => mw cy ad σ z) (by rw [mx_tk_nu, mx_tk_dg, mc_tk]))) dX11_nextToken_71 (fun H locs hP hD hS => ?_)
      refine lv_goto (tgt := 394) hx hb dX11_nextToken_74 (by decide) ?_
      exact rw_v hx hb hr hlocks hS (mu_nu (mu_dg (mu_tk (mu_ta (mu_po T (nI (tB σ o))) (nI (tB σ o))) (-2)) (nI (0))) (nI (0))) (by obtain ⟨e1, e2, e3⟩ := tok_end c64; exact ⟨by rw [e1]; rfl, rfl, by rw [e2]; rfl, by rw [e3]; rfl, rfl, rfl, rfl, rfl, rfl⟩) hP dX11_nextToken_394
  have hlp : ∀ (k q : Nat) (H : Heap) (locs : List Loc), s_ln σ ≤ q + k → q ≤ s_ln σ → rn (s_tx σ) (s_ln σ) qS k q = tB σ o → va_P D vwCl (mw cy ad σ (mu_nu (mu_dg (mu_tk (mu_ta (mu_po T (nI q)) (m_ta T)) (m_tk T)) (m_dg T)) (m_nu T))) H → va_D A (mw cy ad σ (mu_nu (mu_dg (mu_tk (mu_ta (mu_po T (nI q)) (m_ta T)) (m_tk T)) (m_dg T)) (m_nu T))) → va_S A s.heap H locs → W p l e (headSpec qX11_nextToken (rq 2)).room s m ([.ref (ad 0)] : List Value).toArray below meth c H locs 0 0 (MQ below (va_Qv (fun u : Ms => tokP σ o T u) (fun u t => va_P D vwCl ((fun u : Ms => mw cy ad σ u) u) t.heap) A) ([.ref (ad 0)] : List Value).toArray s 0 0 A) (F0 m 0 ls []) := by
    intro k
    induction k with
    | zero =>
      intro q H locs hk hq hrn hP hD hS
      have htq := htx q
      refine lv_aload_n hx hb dX11_nextToken_0 rfl (lv_at hl 0 rfl) ?_
      refine va_get (D := D) (ci := 10) (v := .int (nI (q))) (C := RX11) (T := TX11) (N := 31) hx hb hts ni11 hown hK hP 0 (mw_c0 cy ad σ (mu_nu (mu_dg (mu_tk (mu_ta (mu_po T (nI q)) (m_ta T)) (m_tk T)) (m_dg T)) (m_nu T))) rfl 6 (by decide) (hts _ flX11_63) (fun _ h => h) rfl dX11_nextToken_1 ?_
      refine lv_aload_n hx hb dX11_nextToken_4 rfl (lv_at hl 0 rfl) ?_
      refine va_get (D := D) (ci := 10) (v := .int (nI (s_ln σ))) (C := RX11) (T := TX11) (N := 31) hx hb hts ni11 hown hK hP 0 (mw_c0 cy ad σ (mu_nu (mu_dg (mu_tk (mu_ta (mu_po T (nI q)) (m_ta T)) (m_tk T)) (m_dg T)) (m_nu T))) rfl 4 (by decide) (hts _ flX11_58) (fun _ h => h) rfl dX11_nextToken_5 ?_
      refine ln_icmp_ge (tgt := 38) hx hb dX11_nextToken_8 (by decide) (by omega) (by omega) (fun c8 => ?_) (fun c8 => ?_)
      · have hqe : q = tB σ o := by first | exact rn_e hrn (by omega) | exact rn_n hrn (decide_eq_false (by omega))
        rw [hqe] at hP hD
        exact hmain _ _ hP hD hS
      · refine lv_aload_n hx hb dX11_nextToken_11 rfl (lv_at hl 0 rfl) ?_
        refine va_get (D := D) (ci := 10) (v := .ref (ad 3)) (C := RX11) (T := TX11) (N := 31) hx hb hts ni11 hown hK hP 0 (mw_c0 cy ad σ (mu_nu (mu_dg (mu_tk (mu_ta (mu_po T (nI q)) (m_ta T)) (m_tk T)) (m_dg T)) (m_nu T))) rfl 5 (by decide) (hts _ flX11_16) (fun _ h => h) rfl dX11_nextToken_12 ?_
        refine lv_aload_n hx hb dX11_nextToken_15 rfl (lv_at hl 0 rfl) ?_
        refine va_get (D := D) (ci := 10) (v := .int (nI (q))) (C := RX11) (T := TX11) (N := 31) hx hb hts ni11 hown hK hP 0 (mw_c0 cy ad σ (mu_nu (mu_dg (mu_tk (mu_ta (mu_po T (nI q)) (m_ta T)) (m_tk T)) (m_dg T)) (m_nu T))) rfl 6 (by decide) (hts _ flX11_63) (fun _ h => h) rfl dX11_nextToken_16 ?_
        refine ln_iald (v := (nI (s_tx σ q))) hx hb hK hP 3 (mw_c3 cy ad σ (mu_nu (mu_dg (mu_tk (mu_ta (mu_po T (nI q)) (m_ta T)) (m_tk T)) (m_dg T)) (m_nu T))) (by omega) (by decide) rfl dX11_nextToken_19 ?_
        refine lv_bipush (v := nI 32) hx hb dX11_nextToken_20 (by decide) ?_
        refine ln_icmp_ne (tgt := 38) hx hb dX11_nextToken_22 (by decide) (by omega) (by omega) (fun c22 => ?_) (fun c22 => ?_)
        · have hqe : q = tB σ o := by first | exact rn_e hrn (by omega) | exact rn_n hrn (decide_eq_false (by omega))
          rw [hqe] at hP hD
          exact hmain _ _ hP hD hS
        · refine lv_aload_n hx hb dX11_nextToken_25 rfl (lv_at hl 0 rfl) ?_
          refine lv_dup hx hb dX11_nextToken_26 rfl ?_
          refine va_get (D := D) (ci := 10) (v := .int (nI (q))) (C := RX11) (T := TX11) (N := 31) hx hb hts ni11 hown hK hP 0 (mw_c0 cy ad σ (mu_nu (mu_dg (mu_tk (mu_ta (mu_po T (nI q)) (m_ta T)) (m_tk T)) (m_dg T)) (m_nu T))) rfl 6 (by decide) (hts _ flX11_63) (fun _ h => h) rfl dX11_nextToken_27 ?_
          refine lv_iconst (v := nI 1) hx hb dX11_nextToken_30 (by decide) ?_
          refine ln_iadd hx hb dX11_nextToken_31 ?_
          refine ln_put (ci := 10) (C := RX11) (T := TX11) (N := 31) (ty := .int) (v := .int (nI (q + 1))) hx hb hts ni11 tyX11 tyX11_ok nmX11 hown hK hP hD hS 0 (mw_c0 cy ad σ (mu_nu (mu_dg (mu_tk (mu_ta (mu_po T (nI q)) (m_ta T)) (m_tk T)) (m_dg T)) (m_nu T))) rfl 6 (by decide) (hts _ flX11_63) (fun _ h => h) rfl (by decide +kernel) rfl rfl (Nat.le_of_ble_eq_true rfl) ((mp_0_6 cy ad σ (mu_nu (mu_dg (mu_tk (mu_ta (mu_po T (nI q)) (m_ta T)) (m_tk T)) (m_dg T)) (m_nu T)) (nI (q + 1))).trans (congrArg (fun z => mw cy ad σ z) (by rw [mx_po_nu, mx_po_dg, mx_po_tk, mx_po_ta, mc_po]))) dX11_nextToken_32 (fun H locs hP hD hS => ?_)
          refine lv_goto (tgt := 0) hx hb dX11_nextToken_35 (by decide) ?_
          first | exact ih (q + 1) _ _ (by omega) (by omega) (rn_s hrn (by omega) (decide_eq_true c22)) hP hD hS | (exfalso; omega)
    | succ k ih =>
      intro q H locs hk hq hrn hP hD hS
      have htq := htx q
      refine lv_aload_n hx hb dX11_nextToken_0 rfl (lv_at hl 0 rfl) ?_
      refine va_get (D := D) (ci := 10) (v := .int (nI (q))) (C := RX11) (T := TX11) (N := 31) hx hb hts ni11 hown hK hP 0 (mw_c0 cy ad σ (mu_nu (mu_dg (mu_tk (mu_ta (mu_po T (nI q)) (m_ta T)) (m_tk T)) (m_dg T)) (m_nu T))) rfl 6 (by decide) (hts _ flX11_63) (fun _ h => h) rfl dX11_nextToken_1 ?_
      refine lv_aload_n hx hb dX11_nextToken_4 rfl (lv_at hl 0 rfl) ?_
      refine va_get (D := D) (ci := 10) (v := .int (nI (s_ln σ))) (C := RX11) (T := TX11) (N := 31) hx hb hts ni11 hown hK hP 0 (mw_c0 cy ad σ (mu_nu (mu_dg (mu_tk (mu_ta (mu_po T (nI q)) (m_ta T)) (m_tk T)) (m_dg T)) (m_nu T))) rfl 4 (by decide) (hts _ flX11_58) (fun _ h => h) rfl dX11_nextToken_5 ?_
      refine ln_icmp_ge (tgt := 38) hx hb dX11_nextToken_8 (by decide) (by omega) (by omega) (fun c8 => ?_) (fun c8 => ?_)
      · have hqe : q = tB σ o := by first | exact rn_e hrn (by omega) | exact rn_n hrn (decide_eq_false (by omega))
        rw [hqe] at hP hD
        exact hmain _ _ hP hD hS
      · refine lv_aload_n hx hb dX11_nextToken_11 rfl (lv_at hl 0 rfl) ?_
        refine va_get (D := D) (ci := 10) (v := .ref (ad 3)) (C := RX11) (T := TX11) (N := 31) hx hb hts ni11 hown hK hP 0 (mw_c0 cy ad σ (mu_nu (mu_dg (mu_tk (mu_ta (mu_po T (nI q)) (m_ta T)) (m_tk T)) (m_dg T)) (m_nu T))) rfl 5 (by decide) (hts _ flX11_16) (fun _ h => h) rfl dX11_nextToken_12 ?_
        refine lv_aload_n hx hb dX11_nextToken_15 rfl (lv_at hl 0 rfl) ?_
        refine va_get (D := D) (ci := 10) (v := .int (nI (q))) (C := RX11) (T := TX11) (N := 31) hx hb hts ni11 hown hK hP 0 (mw_c0 cy ad σ (mu_nu (mu_dg (mu_tk (mu_ta (mu_po T (nI q)) (m_ta T)) (m_tk T)) (m_dg T)) (m_nu T))) rfl 6 (by decide) (hts _ flX11_63) (fun _ h => h) rfl dX11_nextToken_16 ?_
        refine ln_iald (v := (nI (s_tx σ q))) hx hb hK hP 3 (mw_c3 cy ad σ (mu_nu (mu_dg (mu_tk (mu_ta (mu_po T (nI q)) (m_ta T)) (m_tk T)) (m_dg T)) (m_nu T))) (by omega) (by decide) rfl dX11_nextToken_19 ?_
        refine lv_bipush (v := nI 32) hx hb dX11_nextToken_20 (by decide) ?_
        refine ln_icmp_ne (tgt := 38) hx hb dX11_nextToken_22 (by decide) (by omega) (by omega) (fun c22 => ?_) (fun c22 => ?_)
        · have hqe : q = tB σ o := by first | exact rn_e hrn (by omega) | exact rn_n hrn (decide_eq_false (by omega))
          rw [hqe] at hP hD
          exact hmain _ _ hP hD hS
        · refine lv_aload_n hx hb dX11_nextToken_25 rfl (lv_at hl 0 rfl) ?_
          refine lv_dup hx hb dX11_nextToken_26 rfl ?_
          refine va_get (D := D) (ci := 10) (v := .int (nI (q))) (C := RX11) (T := TX11) (N := 31) hx hb hts ni11 hown hK hP 0 (mw_c0 cy ad σ (mu_nu (mu_dg (mu_tk (mu_ta (mu_po T (nI q)) (m_ta T)) (m_tk T)) (m_dg T)) (m_nu T))) rfl 6 (by decide) (hts _ flX11_63) (fun _ h => h) rfl dX11_nextToken_27 ?_
          refine lv_iconst (v := nI 1) hx hb dX11_nextToken_30 (by decide) ?_
          refine ln_iadd hx hb dX11_nextToken_31 ?_
          refine ln_put (ci := 10) (C := RX11) (T := TX11) (N := 31) (ty := .int) (v := .int (nI (q + 1))) hx hb hts ni11 tyX11 tyX11_ok nmX11 hown hK hP hD hS 0 (mw_c0 cy ad σ (mu_nu (mu_dg (mu_tk (mu_ta (mu_po T (nI q)) (m_ta T)) (m_tk T)) (m_dg T)) (m_nu T))) rfl 6 (by decide) (hts _ flX11_63) (fun _ h => h) rfl (by decide +kernel) rfl rfl (Nat.le_of_ble_eq_true rfl) ((mp_0_6 cy ad σ (mu_nu (mu_dg (mu_tk (mu_ta (mu_po T (nI q)) (m_ta T)) (m_tk T)) (m_dg T)) (m_nu T)) (nI (q + 1))).trans (congrArg (fun z => mw cy ad σ z) (by rw [mx_po_nu, mx_po_dg, mx_po_tk, mx_po_ta, mc_po]))) dX11_nextToken_32 (fun H locs hP hD hS => ?_)
          refine lv_goto (tgt := 0) hx hb dX11_nextToken_35 (by decide) ?_
          first | exact ih (q + 1) _ _ (by omega) (by omega) (rn_s hrn (by omega) (decide_eq_true c22)) hP hD hS | (exfalso; omega)
  exact hlp 201 o _ _ (by omega) hp rfl hP hD hS
