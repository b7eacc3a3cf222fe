def cpyN (g : Nat → Int32) (f : Nat → Nat) : Nat → Nat → Int32
  | 0 => g
  | i + 1 => upd (cpyN g f i) i (nI (f i))
theorem cpyN_lt {g : Nat → Int32} {f : Nat → Nat} : ∀ {i t : Nat}, t < i → cpyN g f i t = nI (f t)
  | 0, t, h => absurd h (by omega)
  | i + 1, t, h => by
    rw [cpyN]
    by_cases c : t = i
    · rw [c, upd_s]
    · rw [upd_o c, cpyN_lt (by omega)]
def wf1 (τ : Sg) : Prop := s_n τ ≤ 8 ∧ s_m τ ≤ 3 ∧ wfT (s_th τ) ∧ wfF (s_fe τ) ∧ ∀ f, f < s_m τ → 1 ≤ s_fe τ (5 * f + 4)
theorem wf1_of {σ : Sg} (h : wfS σ) : wf1 σ := ⟨h.1, h.2.1, h.2.2.1, h.2.2.2.1, h.2.2.2.2.2.2.2.2.2.2.1⟩
theorem th6_at {th : Nat → Nat} {n k a b t : Nat} (h : t ≠ n) {i : Nat} (hi : i < 6) : th6 th n k a b (6 * t + i) = th (6 * t + i) := by
  unfold th6
  rw [updN_o (by omega), updN_o (by omega), updN_o (by omega), updN_o (by omega), updN_o (by omega), updN_o (by omega)]
theorem th6_0 {th : Nat → Nat} {n k a b : Nat} : th6 th n k a b (6 * n) = k := by
  unfold th6
  rw [updN_o (by omega), updN_o (by omega), updN_o (by omega), updN_o (by omega), updN_o (by omega), updN_s]
theorem th6_1 {th : Nat → Nat} {n k a b : Nat} : th6 th n k a b (6 * n + 1) = a := by
  unfold th6
  rw [updN_o (by omega), updN_o (by omega), updN_o (by omega), updN_o (by omega), updN_s]
theorem th6_2 {th : Nat → Nat} {n k a b : Nat} : th6 th n k a b (6 * n + 2) = b := by
  unfold th6
  rw [updN_o (by omega), updN_o (by omega), updN_o (by omega), updN_s]
theorem th6_3 {th : Nat → Nat} {n k a b : Nat} : th6 th n k a b (6 * n + 3) = 0 := by
  unfold th6
  rw [updN_o (by omega), updN_o (by omega), updN_s]
theorem th6_4 {th : Nat → Nat} {n k a b : Nat} : th6 th n k a b (6 * n + 4) = 0 := by
  unfold th6
  rw [updN_o (by omega), updN_s]
theorem th6_5 {th : Nat → Nat} {n k a b : Nat} : th6 th n k a b (6 * n + 5) = 0 := updN_s
theorem fe5_at {fe : Nat → Nat} {m k a b c d t : Nat} (h : t ≠ m) {i : Nat} (hi : i < 5) : fe5 fe m k a b c d (5 * t + i) = fe (5 * t + i) := by
  unfold fe5
  rw [updN_o (by omega), updN_o (by omega), updN_o (by omega), updN_o (by omega), updN_o (by omega)]
theorem fe5_0 {fe : Nat → Nat} {m k a b c d : Nat} : fe5 fe m k a b c d (5 * m) = k := by
  unfold fe5
  rw [updN_o (by omega), updN_o (by omega), updN_o (by omega), updN_o (by omega), updN_s]
theorem fe5_1 {fe : Nat → Nat} {m k a b c d : Nat} : fe5 fe m k a b c d (5 * m + 1) = a := by
  unfold fe5
  rw [updN_o (by omega), updN_o (by omega), updN_o (by omega), updN_s]
theorem fe5_2 {fe : Nat → Nat} {m k a b c d : Nat} : fe5 fe m k a b c d (5 * m + 2) = b := by
  unfold fe5
  rw [updN_o (by omega), updN_o (by omega), updN_s]
theorem fe5_3 {fe : Nat → Nat} {m k a b c d : Nat} : fe5 fe m k a b c d (5 * m + 3) = c := by
  unfold fe5
  rw [updN_o (by omega), updN_s]
theorem fe5_4 {fe : Nat → Nat} {m k a b c d : Nat} : fe5 fe m k a b c d (5 * m + 4) = d := updN_s
theorem wfT_th6 {th : Nat → Nat} {n k a b : Nat} (h : wfT th) (hk : k < 4) (ha : a ≤ 99) (hb : b ≤ 1) : wfT (th6 th n k a b) := by
  intro t ht
  by_cases c : t = n
  · subst c
    rw [th6_0, th6_1, th6_2, th6_3, th6_4, th6_5]
    exact ⟨by omega, ha, hb, by omega, by omega, by omega, fun _ => rfl⟩
  · have e0 := th6_at (th := th) (k := k) (a := a) (b := b) c (show 0 < 6 by decide)
    rw [Nat.add_zero] at e0
    rw [e0, th6_at c (by decide), th6_at c (by decide), th6_at c (by decide), th6_at c (by decide), th6_at c (by decide)]
    exact h t ht
theorem wfF_fe5 {fe : Nat → Nat} {m k a b c d : Nat} (h : wfF fe) (hk : k ≤ 2) (ha : a ≤ 999) (hb : b ≤ 1) (hc : c ≤ 8) (hd : d ≤ 9) : wfF (fe5 fe m k a b c d) := by
  intro t ht
  by_cases e : t = m
  · subst e
    rw [fe5_0, fe5_1, fe5_2, fe5_3, fe5_4]
    exact ⟨hk, ha, hb, hc, hd⟩
  · have e0 := fe5_at (fe := fe) (k := k) (a := a) (b := b) (c := c) (d := d) e (show 0 < 5 by decide)
    rw [Nat.add_zero] at e0
    rw [e0, fe5_at e (by decide), fe5_at e (by decide), fe5_at e (by decide), fe5_at e (by decide)]
    exact h t ht
theorem wf1_do {τ : Sg} {k : Nat} {l : List Nat} (h : wf1 τ) (ok : okL τ k l) : wf1 (doL τ k l) := by
  obtain ⟨h1, h2, h3, h4, h5⟩ := h
  obtain ⟨k11, k1, k2, k3, k4, k5, k6⟩ := ok
  unfold doL
  split
  · rename_i c
    obtain ⟨q1, a, b, rfl, q2, q3, q4⟩ := k1 c
    exact ⟨show s_n τ + 1 ≤ 8 by omega, h2, wfT_th6 h3 c q3 q4, h4, h5⟩
  · split
    · rename_i c0 c
      obtain ⟨q1, a, b, c1, d, rfl, q2, q3, q4, q5, q6, q7, q8⟩ := k2 (by omega) c
      refine ⟨h1, show s_m τ + 1 ≤ 3 by omega, h3, wfF_fe5 h4 (by omega) q3 q4 q6 q8, fun f hf => ?_⟩
      have hf : f < s_m τ + 1 := hf
      show 1 ≤ fe5 (s_fe τ) (s_m τ) (k - 4) a b c1 d (5 * f + 4)
      by_cases e : f = s_m τ
      · rw [e, fe5_4]; exact q7
      · rw [fe5_at e (by decide)]; exact h5 f (by omega)
    · split
      · exact ⟨Nat.zero_le _, Nat.zero_le _, h3, h4, fun f hf => absurd hf (Nat.not_lt_zero f)⟩
      · split
        · rename_i c
          obtain ⟨a, b, rfl, q1, q2, q3⟩ := k4 c
          refine ⟨h1, h2, fun t ht => ?_, h4, h5⟩
          have hh := h3 t ht
          show updN (s_th τ) (6 * a + 3) b (6 * t) ≤ 3 ∧ updN (s_th τ) (6 * a + 3) b (6 * t + 1) ≤ 99 ∧ updN (s_th τ) (6 * a + 3) b (6 * t + 2) ≤ 1 ∧ updN (s_th τ) (6 * a + 3) b (6 * t + 3) ≤ 9 ∧ updN (s_th τ) (6 * a + 3) b (6 * t + 4) ≤ 9 ∧ updN (s_th τ) (6 * a + 3) b (6 * t + 5) ≤ 1 ∧ (2 ≤ updN (s_th τ) (6 * a + 3) b (6 * t) → updN (s_th τ) (6 * a + 3) b (6 * t + 3) = 0)
          rw [updN_o (j := 6 * t) (by omega), updN_o (j := 6 * t + 1) (by omega), updN_o (j := 6 * t + 2) (by omega), updN_o (j := 6 * t + 4) (by omega), updN_o (j := 6 * t + 5) (by omega)]
          by_cases e : t = a
          · rw [e, updN_s]; rw [e] at hh; exact ⟨hh.1, hh.2.1, hh.2.2.1, q3, hh.2.2.2.2.1, hh.2.2.2.2.2.1, fun q => absurd q (by omega)⟩
          · rw [updN_o (by omega)]; exact hh
        · split
          · rename_i c
            obtain ⟨a, b, rfl, q1, q2⟩ := k5 c
            refine ⟨h1, h2, fun t ht => ?_, h4, h5⟩
            have hh := h3 t ht
            show updN (s_th τ) (6 * a + 4) b (6 * t) ≤ 3 ∧ updN (s_th τ) (6 * a + 4) b (6 * t + 1) ≤ 99 ∧ updN (s_th τ) (6 * a + 4) b (6 * t + 2) ≤ 1 ∧ updN (s_th τ) (6 * a + 4) b (6 * t + 3) ≤ 9 ∧ updN (s_th τ) (6 * a + 4) b (6 * t + 4) ≤ 9 ∧ updN (s_th τ) (6 * a + 4) b (6 * t + 5) ≤ 1 ∧ (2 ≤ updN (s_th τ) (6 * a + 4) b (6 * t) → updN (s_th τ) (6 * a + 4) b (6 * t + 3) = 0)
            rw [updN_o (j := 6 * t) (by omega), updN_o (j := 6 * t + 1) (by omega), updN_o (j := 6 * t + 2) (by omega), updN_o (j := 6 * t + 3) (by omega), updN_o (j := 6 * t + 5) (by omega)]
            by_cases e : t = a
            · rw [e, updN_s]; rw [e] at hh; exact ⟨hh.1, hh.2.1, hh.2.2.1, hh.2.2.2.1, q2, hh.2.2.2.2.2.1, hh.2.2.2.2.2.2⟩
            · rw [updN_o (by omega)]; exact hh
          · obtain ⟨a, rfl, q1⟩ := k6 (by omega)
            refine ⟨h1, h2, fun t ht => ?_, h4, h5⟩
            have hh := h3 t ht
            show updN (s_th τ) (6 * a + 5) 1 (6 * t) ≤ 3 ∧ updN (s_th τ) (6 * a + 5) 1 (6 * t + 1) ≤ 99 ∧ updN (s_th τ) (6 * a + 5) 1 (6 * t + 2) ≤ 1 ∧ updN (s_th τ) (6 * a + 5) 1 (6 * t + 3) ≤ 9 ∧ updN (s_th τ) (6 * a + 5) 1 (6 * t + 4) ≤ 9 ∧ updN (s_th τ) (6 * a + 5) 1 (6 * t + 5) ≤ 1 ∧ (2 ≤ updN (s_th τ) (6 * a + 5) 1 (6 * t) → updN (s_th τ) (6 * a + 5) 1 (6 * t + 3) = 0)
            rw [updN_o (j := 6 * t) (by omega), updN_o (j := 6 * t + 1) (by omega), updN_o (j := 6 * t + 2) (by omega), updN_o (j := 6 * t + 3) (by omega), updN_o (j := 6 * t + 4) (by omega)]
            by_cases e : t = a
            · rw [e, updN_s]; rw [e] at hh; exact ⟨hh.1, hh.2.1, hh.2.2.1, hh.2.2.2.1, hh.2.2.2.2.1, Nat.le_refl _, hh.2.2.2.2.2.2⟩
            · rw [updN_o (by omega)]; exact hh
/-- all lines of a text -/
def glu (pr : List (Nat × List Nat)) : Sum Nat (List (Nat × List Nat)) → Sum Nat (List (Nat × List Nat))
  | .inl f => .inl f
  | .inr q => .inr (pr ++ q)
theorem glu_cons (pr : List (Nat × List Nat)) (x : Nat × List Nat) (y : Sum Nat (List (Nat × List Nat))) : glu pr (match y with | .inl f => .inl f | .inr q => .inr (x :: q)) = glu (pr ++ [x]) y := by
  cases y with
  | inl f => rfl
  | inr q => show Sum.inr (pr ++ x :: q) = Sum.inr (pr ++ [x] ++ q); rw [List.append_assoc]; rfl
def LBs (u : Ms) (pr : List (Nat × List Nat)) : Prop := ∀ (i : Nat) (x : Nat × List Nat), pr[i]? = some x → LB u (5 * i) x.1 x.2
theorem LBs_s {T u : Ms} {pr : List (Nat × List Nat)} {x : Nat × List Nat} (h : LBs T pr) (h1 : LB u (5 * pr.length) x.1 x.2) (h2 : ∀ i, i < 5 * pr.length → m_rd u i = m_rd T i) (h3 : ∀ (i : Nat) (y : Nat × List Nat), pr[i]? = some y → y.2.length ≤ 4) : LBs u (pr ++ [x]) := by
  intro i y hy
  by_cases c : i < pr.length
  · rw [List.getElem?_append_left c] at hy
    have hl := h i y hy
    have h4 := h3 i y hy
    exact ⟨by rw [h2 _ (by omega)]; exact hl.1, fun q hq => by rw [h2 _ (by omega)]; exact hl.2 q hq⟩
  · rw [List.getElem?_append_right (by omega)] at hy
    have hi : i = pr.length := by
      rcases (show i - pr.length = 0 ∨ 0 < i - pr.length by omega) with q | q
      · omega
      · rw [List.getElem?_eq_none (by show 1 ≤ _; omega)] at hy; cases hy
    subst hi
    rw [Nat.sub_self] at hy
    cases hy
    exact h1
def shr (pr : List (Nat × List Nat)) : Prop := ∀ (i : Nat) (y : Nat × List Nat), pr[i]? = some y → y.2.length ≤ 4
theorem shr_s {pr : List (Nat × List Nat)} {x : Nat × List Nat} (h : shr pr) (hx : x.2.length ≤ 4) : shr (pr ++ [x]) := by
  intro i y hy
  by_cases c : i < pr.length
  · rw [List.getElem?_append_left c] at hy; exact h i y hy
  · rw [List.getElem?_append_right (by omega)] at hy
    rcases (show i - pr.length = 0 ∨ 0 < i - pr.length by omega) with q | q
    · rw [q] at hy; cases hy; exact hx
    · rw [List.getElem?_eq_none (by show 1 ≤ _; omega)] at hy; cases hy
theorem okL_len {τ : Sg} {k : Nat} {l : List Nat} (h : okL τ k l) : l.length ≤ 4 := by
  obtain ⟨k11, k1, k2, k3, k4, k5, k6⟩ := h
  by_cases c1 : k < 4
  · obtain ⟨-, a, b, rfl, -⟩ := k1 c1; exact Nat.le_of_ble_eq_true rfl
  by_cases c2 : k < 7
  · obtain ⟨-, a, b, c, d, rfl, -⟩ := k2 (by omega) c2; exact Nat.le_of_ble_eq_true rfl
  by_cases c3 : k = 7
  · rw [k3 c3]; exact Nat.le_of_ble_eq_true rfl
  by_cases c4 : k = 8
  · obtain ⟨a, b, rfl, -⟩ := k4 c4; exact Nat.le_of_ble_eq_true rfl
  by_cases c5 : k = 9
  · obtain ⟨a, b, rfl, -⟩ := k5 c5; exact Nat.le_of_ble_eq_true rfl
  · obtain ⟨a, rfl, -⟩ := k6 (by omega); exact Nat.le_of_ble_eq_true rfl
def okR (τ : Sg) : List (Nat × List Nat) → Prop
  | [] => True
  | x :: xs => okL τ x.1 x.2 ∧ okR (doL τ x.1 x.2) xs
theorem rRun_ok {σ : Sg} : ∀ {k : Nat} {τ : Sg} {o : Nat} {r : List (Nat × List Nat)}, wf1 τ → rRun σ k τ o = .inr r → okR τ r ∧ r.length ≤ k
  | 0, τ, o, r, hw, h => by rw [rRun] at h; cases h
  | k + 1, τ, o, r, hw, h => by
    rw [rRun] at h
    split at h
    · cases h
    · rename_i x e
      have ok := rLine_ok hw.1 hw.2.1 e
      split at h
      · cases h; exact ⟨⟨ok, trivial⟩, by show 1 ≤ k + 1; omega⟩
      · split at h
        · split at h
          · cases h
          · rename_i q e2
            cases h
            have hh := rRun_ok (wf1_do hw ok) e2
            exact ⟨⟨ok, hh.1⟩, Nat.succ_le_succ hh.2⟩
        · cases h
theorem wf1_run : ∀ {xs : List (Nat × List Nat)} {τ : Sg}, wf1 τ → okR τ xs → wf1 (runL τ xs)
  | [], τ, h, _ => h
  | x :: xs, τ, h, ok => wf1_run (xs := xs) (wf1_do h ok.1) ok.2
def RdP (σ : Sg) (r : Int32) (u : Ms) : Prop := r = bI (rRun σ 12 σ 0).isRight ∧ match rRun σ 12 σ 0 with
  | .inl f => m_fa u = nI f
  | .inr q => m_rm u = nI q.length ∧ LBs u q
theorem RdP_f {σ : Sg} {f : Nat} {u : Ms} (h : rRun σ 12 σ 0 = .inl f) (hf : m_fa u = nI f) : RdP σ (bI false) u := by rw [RdP, h]; exact ⟨rfl, hf⟩
theorem RdP_t {σ : Sg} {q : List (Nat × List Nat)} {u : Ms} (h : rRun σ 12 σ 0 = .inr q) (h1 : m_rm u = nI q.length) (h2 : LBs u q) : RdP σ (bI true) u := by rw [RdP, h]; exact ⟨rfl, h1, h2⟩
theorem rRun_x {σ τ : Sg} {k o : Nat} {x : Nat × Nat × List Nat} (h : rLine σ τ o = .inr x) : rRun σ (k + 1) τ o = (if tC σ x.1 = -2 then .inr [x.2] else if tC σ x.1 = -3 ∧ 0 < k then (match rRun σ k (doL τ x.2.1 x.2.2) (tE σ x.1) with | .inl f => .inl f | .inr q => .inr (x.2 :: q)) else .inl (tB σ x.1)) := by rw [rRun, h]; rfl
theorem rRun_f {σ τ : Sg} {k o f : Nat} (h : rLine σ τ o = .inl f) : rRun σ (k + 1) τ o = .inl f := by rw [rRun, h]
theorem m_eta_rm (T : Ms) : mu_rm T (m_rm T) = T := rfl
theorem RT_rm {τ : Sg} {T : Ms} {o : Nat} {v : Int32} (h : RT τ T o) : RT τ (mu_rm T v) o := h
theorem LBs_rm {T : Ms} {v : Int32} {q : List (Nat × List Nat)} (h : LBs T q) : LBs (mu_rm T v) q := h
theorem m_eta_i (T : Ms) : mu_rk (mu_rf (mu_rt (mu_rm (mu_po T (m_po T)) (m_rm T)) (m_rt T)) (m_rf T)) (m_rk T) = T := rfl
theorem RT_0 {σ : Sg} {T : Ms} {v : Int32} {g : Nat → Int32} : RT σ (mu_rk (mu_rf (mu_rt (mu_rm (mu_po T (nI 0)) v) (nI (s_n σ))) (nI (s_m σ))) (cpyN g (fun t => s_th σ (6 * t)) (s_n σ))) 0 := ⟨rfl, rfl, rfl, fun t ht => cpyN_lt (f := fun t => s_th σ (6 * t)) ht⟩
theorem LBs_s2 {V u u2 : Ms} {pr : List (Nat × List Nat)} {x : Nat × List Nat} (h : LBs V pr) (h1 : LB u (5 * pr.length) x.1 x.2) (h2 : ∀ i, i < 5 * pr.length → m_rd u i = m_rd V i) (h3 : shr pr) (h4 : m_rd u2 = m_rd u) : LBs u2 (pr ++ [x]) := by
  have hh := LBs_s h h1 h2 h3
  intro i y hy
  unfold LB
  rw [h4]
  exact hh i y hy
set_option maxHeartbeats 4000000 in
set_option maxRecDepth 100000 in
theorem k_X11_isRead (l : Launch) (D : va_G) (cy : Nat → ClassId) (ad : Nat → Nat) (σ : Sg) (T : Ms)  (hw : wfS σ) : MW l yX11_isRead qX11_isRead 6 [.ref (ad 0)] D cy (mw cy ad σ T) (RdP σ) (fun u : Ms => mw cy ad σ u) := by
  intro sz
  refine Met.ofW (cc := cX11_isRead) (maxL := 2) (ret := (some .boolean)) (by decide) rfl ?_
  intro p e s m args below meth c s₁ B hml hv
  obtain ⟨rfl, rfl, hP, hK, hN, hD0⟩ := hv
  have hx := B.exec
  have hb := B.bytes
  have hr := B.returns
  have hlocks := B.notSynchronized
  have hts : ∀ cq ∈ tg, cq.before ([.ref (ad 0)] : List Value).toArray s = true := fun cq h => atoms_spec (ws := qX11_isRead) B.pre cq (List.mem_cons_of_mem _ h)
  have hown : s.vm.findClass RX11 = some m.cls := findClass_of_methodNamed B.named
  have hD := hD0.self (sz := s.heap.size)
  generalize hAe : va_A (mw cy ad σ T) s.heap.size = A at hD ⊢
  have hA : ∀ q : Nat, s.heap.size ≤ q → A q := fun q h => by rw [← hAe]; exact Or.inr h
  have hS : va_S A s.heap s.heap [] := va_S.rf
  have hl := lv_entry ([.ref (ad 0)]) (n := 2) (Nat.le_of_ble_eq_true rfl)
  rw [lg_entry_eq]
  generalize (lg_sl ([.ref (ad 0)]) ++ List.replicate (2 - (lg_sl ([.ref (ad 0)])).length) Slot.unset).toArray = ls at hl ⊢
  have hl : lv_has ls 2 [(0, .ref (ad 0))] := hl
  have hw1 := hw.1
  have hw2 := hw.2.1
  have hwt := hw.2.2.1
  have hP : va_P D vwCl (mw cy ad σ (mu_rk (mu_rf (mu_rt (mu_rm (mu_po T (m_po T)) (m_rm T)) (m_rt T)) (m_rf T)) (m_rk T))) s.heap := by rw [m_eta_i]; exact hP
  have hD : va_D A (mw cy ad σ (mu_rk (mu_rf (mu_rt (mu_rm (mu_po T (m_po T)) (m_rm T)) (m_rt T)) (m_rf T)) (m_rk T))) := by rw [m_eta_i]; exact hD
  refine lv_aload_n hx hb dX11_isRead_0 rfl (lv_at hl 0 rfl) ?_
  refine lv_iconst (v := nI 0) hx hb dX11_isRead_1 (by decide) ?_
  refine ln_put (ci := 10) (C := RX11) (T := TX11) (N := 31) (ty := .int) (v := .int (nI (0))) hx hb hts ni11 tyX11 tyX11_ok nmX11 hown hK hP hD hS 0 (mw_c0 cy ad σ (mu_rk (mu_rf (mu_rt (mu_rm (mu_po T (m_po T)) (m_rm T)) (m_rt T)) (m_rf T)) (m_rk T))) rfl 6 (by decide) (hts _ flX11_63) (fun _ h => h) rfl (by decide +kernel) rfl rfl (Nat.le_of_ble_eq_true rfl) ((mp_0_6 cy ad σ (mu_rk (mu_rf (mu_rt (mu_rm (mu_po T (m_po T)) (m_rm T)) (m_rt T)) (m_rf T)) (m_rk T)) (nI (0))).trans (congrArg (fun z => mw cy ad σ z) (by rw [mx_po_rk, mx_po_rf, mx_po_rt, mx_po_rm, mc_po]))) dX11_isRead_2 (fun H locs hP hD hS => ?_)
  refine lv_aload_n hx hb dX11_isRead_5 rfl (lv_at hl 0 rfl) ?_
  refine lv_iconst (v := nI 0) hx hb dX11_isRead_6 (by decide) ?_
  refine ln_put (ci := 10) (C := RX11) (T := TX11) (N := 31) (ty := .int) (v := .int (nI (0))) hx hb hts ni11 tyX11 tyX11_ok nmX11 hown hK hP hD hS 0 (mw_c0 cy ad σ (mu_rk (mu_rf (mu_rt (mu_rm (mu_po T (nI (0))) (m_rm T)) (m_rt T)) (m_rf T)) (m_rk T))) rfl 12 (by decide) (hts _ flX11_142) (fun _ h => h) rfl (by decide +kernel) rfl rfl (Nat.le_of_ble_eq_true rfl) ((mp_0_12 cy ad σ (mu_rk (mu_rf (mu_rt (mu_rm (mu_po T (nI (0))) (m_rm T)) (m_rt T)) (m_rf T)) (m_rk T)) (nI (0))).trans (congrArg (fun z => mw cy ad σ z) (by rw [mx_rm_rk, mx_rm_rf, mx_rm_rt, mc_rm]))) dX11_isRead_7 (fun H locs hP hD hS => ?_)
  refine lv_aload_n hx hb dX11_isRead_10 rfl (lv_at hl 0 rfl) ?_
  refine lv_aload_n hx hb dX11_isRead_11 rfl (lv_at hl 0 rfl) ?_
  refine va_get (D := D) (ci := 10) (v := .int (nI (s_n σ))) (C := RX11) (T := TX11) (N := 31) hx hb hts ni11 hown hK hP 0 (mw_c0 cy ad σ (mu_rk (mu_rf (mu_rt (mu_rm (mu_po T (nI (0))) (nI (0))) (m_rt T)) (m_rf T)) (m_rk T))) rfl 0 (by decide) (hts _ flX11_47) (fun _ h => h) rfl dX11_isRead_12 ?_
  refine ln_put (ci := 10) (C := RX11) (T := TX11) (N := 31) (ty := .int) (v := .int (nI (s_n σ))) hx hb hts ni11 tyX11 tyX11_ok nmX11 hown hK hP hD hS 0 (mw_c0 cy ad σ (mu_rk (mu_rf (mu_rt (mu_rm (mu_po T (nI (0))) (nI (0))) (m_rt T)) (m_rf T)) (m_rk T))) rfl 13 (by decide) (hts _ flX11_101) (fun _ h => h) rfl (by decide +kernel) rfl rfl (Nat.le_of_ble_eq_true rfl) ((mp_0_13 cy ad σ (mu_rk (mu_rf (mu_rt (mu_rm (mu_po T (nI (0))) (nI (0))) (m_rt T)) (m_rf T)) (m_rk T)) (nI (s_n σ))).trans (congrArg (fun z => mw cy ad σ z) (by rw [mx_rt_rk, mx_rt_rf, mc_rt]))) dX11_isRead_15 (fun H locs hP hD hS => ?_)
  refine lv_aload_n hx hb dX11_isRead_18 rfl (lv_at hl 0 rfl) ?_
  refine lv_aload_n hx hb dX11_isRead_19 rfl (lv_at hl 0 rfl) ?_
  refine va_get (D := D) (ci := 10) (v := .int (nI (s_m σ))) (C := RX11) (T := TX11) (N := 31) hx hb hts ni11 hown hK hP 0 (mw_c0 cy ad σ (mu_rk (mu_rf (mu_rt (mu_rm (mu_po T (nI (0))) (nI (0))) (nI (s_n σ))) (m_rf T)) (m_rk T))) rfl 2 (by decide) (hts _ flX11_55) (fun _ h => h) rfl dX11_isRead_20 ?_
  refine ln_put (ci := 10) (C := RX11) (T := TX11) (N := 31) (ty := .int) (v := .int (nI (s_m σ))) hx hb hts ni11 tyX11 tyX11_ok nmX11 hown hK hP hD hS 0 (mw_c0 cy ad σ (mu_rk (mu_rf (mu_rt (mu_rm (mu_po T (nI (0))) (nI (0))) (nI (s_n σ))) (m_rf T)) (m_rk T))) rfl 14 (by decide) (hts _ flX11_107) (fun _ h => h) rfl (by decide +kernel) rfl rfl (Nat.le_of_ble_eq_true rfl) ((mp_0_14 cy ad σ (mu_rk (mu_rf (mu_rt (mu_rm (mu_po T (nI (0))) (nI (0))) (nI (s_n σ))) (m_rf T)) (m_rk T)) (nI (s_m σ))).trans (congrArg (fun z => mw cy ad σ z) (by rw [mx_rf_rk, mc_rf]))) dX11_isRead_23 (fun H locs hP hD hS => ?_)
  refine lv_iconst (v := nI 0) hx hb dX11_isRead_26 (by decide) ?_
  refine lv_istore_n (lv' := [(1, .int (nI (0))), (0, .ref (ad 0))]) hx hb dX11_isRead_27 rfl hl (by decide) rfl (fun ls hl => ?_)
  have lp : ∀ (k_lp i : Nat) (ls : Array Slot) (H : Heap) (locs : List Loc) , i + k_lp = s_n σ → va_P D vwCl (mw cy ad σ (mu_rk (mu_rf (mu_rt (mu_rm (mu_po T (nI (0))) (nI (0))) (nI (s_n σ))) (nI (s_m σ))) (cpyN (m_rk T) (fun t => s_th σ (6 * t)) i))) H → va_D A (mw cy ad σ (mu_rk (mu_rf (mu_rt (mu_rm (mu_po T (nI (0))) (nI (0))) (nI (s_n σ))) (nI (s_m σ))) (cpyN (m_rk T) (fun t => s_th σ (6 * t)) i))) → va_S A s.heap H locs → lv_has ls 2 [(1, .int (nI (i))), (0, .ref (ad 0))] → W p l e (headSpec qX11_isRead (rq 6)).room s m ([.ref (ad 0)] : List Value).toArray below meth c H locs 0 0 (MQ below (va_Qi (RdP σ) (fun u t => va_P D vwCl ((fun u : Ms => mw cy ad σ u) u) t.heap) A) ([.ref (ad 0)] : List Value).toArray s 0 0 A) (F0 m 28 ls []) := by
    intro k_lp
    induction k_lp with
    | zero =>
      intro i ls H locs hi_lp hP hD hS hl
      have hti := hwt i
      refine lv_iload_n hx hb dX11_isRead_28 rfl (lv_at hl 0 rfl) ?_
      refine lv_aload_n hx hb dX11_isRead_29 rfl (lv_at hl 1 rfl) ?_
      refine va_get (D := D) (ci := 10) (v := .int (nI (s_n σ))) (C := RX11) (T := TX11) (N := 31) hx hb hts ni11 hown hK hP 0 (mw_c0 cy ad σ (mu_rk (mu_rf (mu_rt (mu_rm (mu_po T (nI (0))) (nI (0))) (nI (s_n σ))) (nI (s_m σ))) (cpyN (m_rk T) (fun t => s_th σ (6 * t)) i))) rfl 0 (by decide) (hts _ flX11_47) (fun _ h => h) rfl dX11_isRead_30 ?_
      refine ln_icmp_ge (tgt := 57) hx hb dX11_isRead_33 (by decide) (by omega) (by omega) (fun c33 => ?_) (fun c33 => ?_)
      · have hie : i = s_n σ := by omega
        rw [hie] at hP hD
        refine lv_iconst (v := nI 1) hx hb dX11_isRead_57 (by decide) ?_
        refine lv_istore_n (lv' := [(1, .int (nI (1))), (0, .ref (ad 0))]) hx hb dX11_isRead_58 rfl hl (by decide) rfl (fun ls hl => ?_)
        have wl : ∀ (k : Nat) (τ : Sg) (o : Nat) (pr : List (Nat × List Nat)) (V : Ms) (H : Heap) (locs : List Loc) (ls : Array Slot), pr.length + k = 12 → 0 < k → wf1 τ → o ≤ s_ln σ → rRun σ 12 σ 0 = glu pr (rRun σ k τ o) → RT τ V o → m_rm V = nI pr.length → LBs V pr → shr pr → va_P D vwCl (mw cy ad σ V) H → va_D A (mw cy ad σ V) → va_S A s.heap H locs → lv_has ls 2 [(1, .int (nI (1))), (0, .ref (ad 0))] → W p l e (headSpec qX11_isRead (rq 6)).room s m ([.ref (ad 0)] : List Value).toArray below meth c H locs 0 0 (MQ below (va_Qi (RdP σ) (fun u t => va_P D vwCl ((fun u : Ms => mw cy ad σ u) u) t.heap) A) ([.ref (ad 0)] : List Value).toArray s 0 0 A) (F0 m 59 ls []) := by
          intro k
          induction k with
          | zero => exact fun τ o pr V H locs ls _ h => absurd h (by omega)
          | succ k ih =>
            intro τ o pr V H locs ls hk _ hwf ho hru hrt hrm hLB hsh hP hD hS hl
            have h0 : V = mu_rm V (nI pr.length) := by rw [← hrm]; exact (m_eta_rm V).symm
            rw [h0] at hP hD
            refine lv_iload_n hx hb dX11_isRead_59 rfl (lv_at hl 0 rfl) ?_
            refine lv_if_eq (tgt := 121) hx hb dX11_isRead_60 (by decide) (fun c => absurd c (by decide)) (fun _ => ?_)
            refine lv_aload_n hx hb dX11_isRead_63 rfl (lv_at hl 1 rfl) ?_
            refine lv_iconst (v := nI 5) hx hb dX11_isRead_64 (by decide) ?_
            refine lv_aload_n hx hb dX11_isRead_65 rfl (lv_at hl 1 rfl) ?_
            refine va_get (D := D) (ci := 10) (v := .int (nI (pr.length))) (C := RX11) (T := TX11) (N := 31) hx hb hts ni11 hown hK hP 0 (mw_c0 cy ad σ (mu_rm V (nI (pr.length)))) rfl 12 (by decide) (hts _ flX11_142) (fun _ h => h) rfl dX11_isRead_66 ?_
            refine ln_imul hx hb dX11_isRead_69 ?_
            refine cr_w (n := 1) (As := [.int (nI (5 * pr.length))]) (rest := []) ⟨hx, hb, hml, hown, hts⟩ (k_X11_isLine l D cy ad σ (mu_rm V (nI (pr.length))) τ o (5 * pr.length) hw hwf.1 hwf.2.1 hwf.2.2.1 ho (RT_rm hrt) (by omega)) gvX11_145 (by decide +kernel) ⟨Nat.le_of_ble_eq_true rfl, Nat.le_of_ble_eq_true rfl⟩ hK hN hP hD hS hA 0 (mw_c0 cy ad σ (mu_rm V (nI (pr.length)))) rfl rfl hl.1 rfl (Nat.le_of_ble_eq_true rfl) dX11_isRead_70 ⟨Nat.zero_le _, Nat.zero_le _⟩ (fun _ => (mw_ad _ _ _ _).trans (mw_ad _ _ _ _).symm) (fun r2 u1 H locs hpu1 hP hD hS => ?_)
            obtain ⟨rfl, elq1⟩ := hpu1
            refine lb_if_ne (tgt := 78) hx hb dX11_isRead_73 (by decide) (fun c73 => ?_) (fun c73 => ?_)
            · obtain ⟨x, hx0⟩ : ∃ x, rLine σ τ o = .inr x := by cases hz : rLine σ τ o with | inl f => rw [hz] at c73; cases c73 | inr x => exact ⟨x, rfl⟩
              have hq : RT (doL τ x.2.1 x.2.2) u1 x.1 ∧ LB u1 (5 * pr.length) x.2.1 x.2.2 ∧ (∀ i, i < 5 * pr.length → m_rd u1 i = m_rd V i) ∧ m_rm u1 = nI pr.length := by have hh := elq1; rw [LnQ, hx0] at hh; exact hh
              have hxl := rLine_le ho hx0
              have okx := rLine_ok hwf.1 hwf.2.1 hx0
              refine lv_aload_n hx hb dX11_isRead_78 rfl (lv_at hl 1 rfl) ?_
              refine lv_dup hx hb dX11_isRead_79 rfl ?_
              refine va_get (D := D) (ci := 10) (v := .int (m_rm u1)) (C := RX11) (T := TX11) (N := 31) hx hb hts ni11 hown hK hP 0 (mw_c0 cy ad σ u1) rfl 12 (by decide) (hts _ flX11_142) (fun _ h => h) rfl dX11_isRead_80 ?_
              refine ln_eq (show (m_rm u1) = (nI (pr.length)) from hq.2.2.2) ?_
              refine lv_iconst (v := nI 1) hx hb dX11_isRead_83 (by decide) ?_
              refine ln_iadd hx hb dX11_isRead_84 ?_
              refine ln_put (ci := 10) (C := RX11) (T := TX11) (N := 31) (ty := .int) (v := .int (nI (pr.length + 1))) hx hb hts ni11 tyX11 tyX11_ok nmX11 hown hK hP hD hS 0 (mw_c0 cy ad σ u1) rfl 12 (by decide) (hts _ flX11_142) (fun _ h => h) rfl (by decide +kernel) rfl rfl (Nat.le_of_ble_eq_true rfl) (mp_0_12 cy ad σ u1 (nI (pr.length + 1))) dX11_isRead_85 (fun H locs hP hD hS => ?_)
              refine lv_aload_n hx hb dX11_isRead_88 rfl (lv_at hl 1 rfl) ?_
              refine cr_vv (n := 0) (As := []) (rest := []) ⟨hx, hb, hml, hown, hts⟩ (k_X11_nextToken l D cy ad σ (mu_rm u1 (nI (pr.length + 1))) x.1 hw hq.1.1 hxl) gvX11_94 (by decide +kernel) ⟨Nat.le_of_ble_eq_true rfl, Nat.le_of_ble_eq_true rfl⟩ hK hN hP hD hS hA 0 (mw_c0 cy ad σ (mu_rm u1 (nI (pr.length + 1)))) rfl rfl hl.1 rfl (Nat.le_of_ble_eq_true rfl) dX11_isRead_89 ⟨Nat.zero_le _, Nat.zero_le _⟩ (fun _ => (mw_ad _ _ _ _).trans (mw_ad _ _ _ _).symm) (fun u3 H locs hpu3 hP hD hS => ?_)
              obtain ⟨epo3, eta3, etk3, enu3, esr3⟩ := hpu3
              refine lv_aload_n hx hb dX11_isRead_92 rfl (lv_at hl 1 rfl) ?_
              refine va_get (D := D) (ci := 10) (v := .long (m_tk u3)) (C := RX11) (T := TX11) (N := 31) hx hb hts ni11 hown hK hP 0 (mw_c0 cy ad σ u3) rfl 8 (by decide) (hts _ flX11_77) (fun _ h => h) rfl dX11_isRead_93 ?_
              refine ll_eq (show (m_tk u3 : Int64) = tC σ x.1 from etk3) ?_
              refine lv_ldc2 (v := -3) hx hb hown (hts _ cnX11_89) dX11_isRead_96 ?_
              refine W.lcmp hx hb dX11_isRead_99 ?_
              refine lv_if_ne (tgt := 116) hx hb dX11_isRead_100 (by decide) (fun c100 => ?_) (fun c100 => ?_)
              · refine lv_iconst (v := nI 0) hx hb dX11_isRead_116 (by decide) ?_
                refine lv_istore_n (lv' := [(1, .int (nI (0))), (0, .ref (ad 0))]) hx hb dX11_isRead_117 rfl hl (by decide) rfl (fun ls hl => ?_)
                refine lv_goto (tgt := 59) hx hb dX11_isRead_118 (by decide) ?_
                refine lv_iload_n hx hb dX11_isRead_59 rfl (lv_at hl 0 rfl) ?_
                refine lv_if_eq (tgt := 121) hx hb dX11_isRead_60 (by decide) (fun _ => ?_) (fun c => absurd rfl c)
                refine lv_aload_n hx hb dX11_isRead_121 rfl (lv_at hl 1 rfl) ?_
                refine va_get (D := D) (ci := 10) (v := .long (m_tk u3)) (C := RX11) (T := TX11) (N := 31) hx hb hts ni11 hown hK hP 0 (mw_c0 cy ad σ u3) rfl 8 (by decide) (hts _ flX11_77) (fun _ h => h) rfl dX11_isRead_122 ?_
                refine ll_eq (show (m_tk u3 : Int64) = tC σ x.1 from etk3) ?_
                refine lv_ldc2 (v := -2) hx hb hown (hts _ cnX11_75) dX11_isRead_125 ?_
                refine W.lcmp hx hb dX11_isRead_128 ?_
                refine lv_if_eq (tgt := 139) hx hb dX11_isRead_129 (by decide) (fun c129 => ?_) (fun c129 => ?_)
                · refine lv_iconst (v := nI 1) hx hb dX11_isRead_139 (by decide) ?_
                  refine lv_goto (tgt := 144) hx hb dX11_isRead_140 (by decide) ?_
                  refine ln_eq bI_t.symm ?_
                  exact rw_z hx hb hr hlocks hS u3 (RdP_t (q := pr ++ [x.2]) (by rw [hru, rRun_x hx0, if_pos ((lg_cmp_0 _ _).mp c129)]; rfl) (by rw [List.length_append]; exact esr3.1) (LBs_s2 hLB hq.2.1 hq.2.2.1 hsh esr3.2.2.2.2)) hP dX11_isRead_144
                · refine lv_aload_n hx hb dX11_isRead_132 rfl (lv_at hl 1 rfl) ?_
                  refine cr_w (n := 0) (As := []) (rest := []) ⟨hx, hb, hml, hown, hts⟩ (k_X11_fails l D cy ad σ u3 ) gvX11_97 (by decide +kernel) ⟨Nat.le_of_ble_eq_true rfl, Nat.le_of_ble_eq_true rfl⟩ hK hN hP hD hS hA 0 (mw_c0 cy ad σ u3) rfl rfl hl.1 rfl (Nat.le_of_ble_eq_true rfl) dX11_isRead_133 ⟨Nat.zero_le _, Nat.zero_le _⟩ (fun _ => (mw_ad _ _ _ _).trans (mw_ad _ _ _ _).symm) (fun r5 u4 H locs hpu4 hP hD hS => ?_)
                  obtain ⟨rfl, efa4⟩ := hpu4
                  refine lb_if_eq (tgt := 143) hx hb dX11_isRead_136 (by decide) (fun _ => ?_) (fun c => absurd c (by decide))
                  refine lv_iconst (v := nI 0) hx hb dX11_isRead_143 (by decide) ?_
                  refine ln_eq bI_f.symm ?_
                  exact rw_z hx hb hr hlocks hS u4 (RdP_f (f := tB σ x.1) (by rw [hru, rRun_x hx0, if_neg (fun z => c129 ((lg_cmp_0 _ _).mpr z)), if_neg (fun z => by first | exact c100 ((lg_cmp_0 _ _).mpr z.1) | omega)]; rfl) (efa4.trans eta3)) hP dX11_isRead_144
              · have hm3 : tC σ x.1 = -3 := (lg_cmp_0 _ _).mp c100
                refine lv_aload_n hx hb dX11_isRead_103 rfl (lv_at hl 1 rfl) ?_
                refine va_get (D := D) (ci := 10) (v := .int (m_rm u3)) (C := RX11) (T := TX11) (N := 31) hx hb hts ni11 hown hK hP 0 (mw_c0 cy ad σ u3) rfl 12 (by decide) (hts _ flX11_142) (fun _ h => h) rfl dX11_isRead_104 ?_
                refine ln_eq (show (m_rm u3) = (nI (pr.length + 1)) from esr3.1) ?_
                refine lv_bipush (v := nI 12) hx hb dX11_isRead_107 (by decide) ?_
                refine ln_icmp_ge (tgt := 116) hx hb dX11_isRead_109 (by decide) (by omega) (by omega) (fun c109 => ?_) (fun c109 => ?_)
                · refine lv_iconst (v := nI 0) hx hb dX11_isRead_116 (by decide) ?_
                  refine lv_istore_n (lv' := [(1, .int (nI (0))), (0, .ref (ad 0))]) hx hb dX11_isRead_117 rfl hl (by decide) rfl (fun ls hl => ?_)
                  refine lv_goto (tgt := 59) hx hb dX11_isRead_118 (by decide) ?_
                  refine lv_iload_n hx hb dX11_isRead_59 rfl (lv_at hl 0 rfl) ?_
                  refine lv_if_eq (tgt := 121) hx hb dX11_isRead_60 (by decide) (fun _ => ?_) (fun c => absurd rfl c)
                  refine lv_aload_n hx hb dX11_isRead_121 rfl (lv_at hl 1 rfl) ?_
                  refine va_get (D := D) (ci := 10) (v := .long (m_tk u3)) (C := RX11) (T := TX11) (N := 31) hx hb hts ni11 hown hK hP 0 (mw_c0 cy ad σ u3) rfl 8 (by decide) (hts _ flX11_77) (fun _ h => h) rfl dX11_isRead_122 ?_
                  refine ll_eq (show (m_tk u3 : Int64) = tC σ x.1 from etk3) ?_
                  refine lv_ldc2 (v := -2) hx hb hown (hts _ cnX11_75) dX11_isRead_125 ?_
                  refine W.lcmp hx hb dX11_isRead_128 ?_
                  refine lv_if_eq (tgt := 139) hx hb dX11_isRead_129 (by decide) (fun c129 => ?_) (fun c129 => ?_)
                  · refine lv_iconst (v := nI 1) hx hb dX11_isRead_139 (by decide) ?_
                    refine lv_goto (tgt := 144) hx hb dX11_isRead_140 (by decide) ?_
                    refine ln_eq bI_t.symm ?_
                    exact rw_z hx hb hr hlocks hS u3 (RdP_t (q := pr ++ [x.2]) (by rw [hru, rRun_x hx0, if_pos ((lg_cmp_0 _ _).mp c129)]; rfl) (by rw [List.length_append]; exact esr3.1) (LBs_s2 hLB hq.2.1 hq.2.2.1 hsh esr3.2.2.2.2)) hP dX11_isRead_144
                  · refine lv_aload_n hx hb dX11_isRead_132 rfl (lv_at hl 1 rfl) ?_
                    refine cr_w (n := 0) (As := []) (rest := []) ⟨hx, hb, hml, hown, hts⟩ (k_X11_fails l D cy ad σ u3 ) gvX11_97 (by decide +kernel) ⟨Nat.le_of_ble_eq_true rfl, Nat.le_of_ble_eq_true rfl⟩ hK hN hP hD hS hA 0 (mw_c0 cy ad σ u3) rfl rfl hl.1 rfl (Nat.le_of_ble_eq_true rfl) dX11_isRead_133 ⟨Nat.zero_le _, Nat.zero_le _⟩ (fun _ => (mw_ad _ _ _ _).trans (mw_ad _ _ _ _).symm) (fun r7 u6 H locs hpu6 hP hD hS => ?_)
                    obtain ⟨rfl, efa6⟩ := hpu6
                    refine lb_if_eq (tgt := 143) hx hb dX11_isRead_136 (by decide) (fun _ => ?_) (fun c => absurd c (by decide))
                    refine lv_iconst (v := nI 0) hx hb dX11_isRead_143 (by decide) ?_
                    refine ln_eq bI_f.symm ?_
                    exact rw_z hx hb hr hlocks hS u6 (RdP_f (f := tB σ x.1) (by rw [hru, rRun_x hx0, if_neg (fun z => c129 ((lg_cmp_0 _ _).mpr z)), if_neg (fun z => by first | exact c100 ((lg_cmp_0 _ _).mpr z.1) | omega)]; rfl) (efa6.trans eta3)) hP dX11_isRead_144
                · refine lv_iconst (v := nI 1) hx hb dX11_isRead_112 (by decide) ?_
                  refine lv_goto (tgt := 117) hx hb dX11_isRead_113 (by decide) ?_
                  refine lv_istore_n (lv' := [(1, .int (nI (1))), (0, .ref (ad 0))]) hx hb dX11_isRead_117 rfl hl (by decide) rfl (fun ls hl => ?_)
                  refine lv_goto (tgt := 59) hx hb dX11_isRead_118 (by decide) ?_
                  have hk0 : 0 < k := by omega
                  exact ih (doL τ x.2.1 x.2.2) (tE σ x.1) (pr ++ [x.2]) _ H locs ls (by rw [List.length_append]; show pr.length + 1 + k = 12; omega) hk0 (wf1_do hwf okx) (tE_le hxl) (show rRun σ 12 σ 0 = _ by rw [hru, rRun_x hx0, if_neg (fun z => by rw [z] at hm3; exact absurd hm3 (by decide)), if_pos ⟨hm3, hk0⟩, glu_cons]) ⟨epo3, esr3.2.1.trans hq.1.2.1, esr3.2.2.1.trans hq.1.2.2.1, fun t ht => by rw [esr3.2.2.2.1]; exact hq.1.2.2.2 t ht⟩ (by rw [List.length_append]; exact esr3.1) (LBs_s2 hLB hq.2.1 hq.2.2.1 hsh esr3.2.2.2.2) (shr_s hsh (okL_len okx)) hP hD hS (lv_sub hl [0, 1] rfl)
            · refine lv_iconst (v := nI 0) hx hb dX11_isRead_76 (by decide) ?_
              refine ln_eq bI_f.symm ?_
              exact rw_z hx hb hr hlocks hS u1 (by cases hz : rLine σ τ o with | inr x => rw [hz] at c73; cases c73 | inl f => have hh := elq1; rw [LnQ, hz] at hh; exact RdP_f (f := f) (by rw [hru, rRun_f hz]; rfl) hh) hP dX11_isRead_77
        exact wl 12 σ 0 [] _ H locs ls rfl (by decide) (wf1_of hw) (Nat.zero_le _) (by cases rRun σ 12 σ 0 <;> rfl) RT_0 rfl (fun i y h => by cases h) (fun i y h => by cases h) hP hD hS (lv_sub hl [0, 1] rfl)
      · exact absurd c33 (by omega)
    | succ k_lp ih_lp =>
      intro i ls H locs hi_lp hP hD hS hl
      have hti := hwt i
      refine lv_iload_n hx hb dX11_isRead_28 rfl (lv_at hl 0 rfl) ?_
      refine lv_aload_n hx hb dX11_isRead_29 rfl (lv_at hl 1 rfl) ?_
      refine va_get (D := D) (ci := 10) (v := .int (nI (s_n σ))) (C := RX11) (T := TX11) (N := 31) hx hb hts ni11 hown hK hP 0 (mw_c0 cy ad σ (mu_rk (mu_rf (mu_rt (mu_rm (mu_po T (nI (0))) (nI (0))) (nI (s_n σ))) (nI (s_m σ))) (cpyN (m_rk T) (fun t => s_th σ (6 * t)) i))) rfl 0 (by decide) (hts _ flX11_47) (fun _ h => h) rfl dX11_isRead_30 ?_
      refine ln_icmp_ge (tgt := 57) hx hb dX11_isRead_33 (by decide) (by omega) (by omega) (fun c33 => ?_) (fun c33 => ?_)
      · exact absurd c33 (by omega)
      · refine lv_aload_n hx hb dX11_isRead_36 rfl (lv_at hl 1 rfl) ?_
        refine va_get (D := D) (ci := 10) (v := .ref (ad 4)) (C := RX11) (T := TX11) (N := 31) hx hb hts ni11 hown hK hP 0 (mw_c0 cy ad σ (mu_rk (mu_rf (mu_rt (mu_rm (mu_po T (nI (0))) (nI (0))) (nI (s_n σ))) (nI (s_m σ))) (cpyN (m_rk T) (fun t => s_th σ (6 * t)) i))) rfl 15 (by decide) (hts _ flX11_19) (fun _ h => h) rfl dX11_isRead_37 ?_
        refine lv_iload_n hx hb dX11_isRead_40 rfl (lv_at hl 0 rfl) ?_
        refine lv_aload_n hx hb dX11_isRead_41 rfl (lv_at hl 1 rfl) ?_
        refine va_get (D := D) (ci := 10) (v := .ref (ad 1)) (C := RX11) (T := TX11) (N := 31) hx hb hts ni11 hown hK hP 0 (mw_c0 cy ad σ (mu_rk (mu_rf (mu_rt (mu_rm (mu_po T (nI (0))) (nI (0))) (nI (s_n σ))) (nI (s_m σ))) (cpyN (m_rk T) (fun t => s_th σ (6 * t)) i))) rfl 1 (by decide) (hts _ flX11_7) (fun _ h => h) rfl dX11_isRead_42 ?_
        refine lv_bipush (v := nI 6) hx hb dX11_isRead_45 (by decide) ?_
        refine lv_iload_n hx hb dX11_isRead_47 rfl (lv_at hl 0 rfl) ?_
        refine ln_imul hx hb dX11_isRead_48 ?_
        refine ln_iald (v := (nI (s_th σ (6 * i)))) hx hb hK hP 1 (mw_c1 cy ad σ (mu_rk (mu_rf (mu_rt (mu_rm (mu_po T (nI (0))) (nI (0))) (nI (s_n σ))) (nI (s_m σ))) (cpyN (m_rk T) (fun t => s_th σ (6 * t)) i))) (by omega) (by decide) rfl dX11_isRead_49 ?_
        refine ln_iast hx hb hK hP hD hS 4 (mw_c4 cy ad σ (mu_rk (mu_rf (mu_rt (mu_rm (mu_po T (nI (0))) (nI (0))) (nI (s_n σ))) (nI (s_m σ))) (cpyN (m_rk T) (fun t => s_th σ (6 * t)) i))) (by omega) (by decide) ((mp_4 cy ad σ (mu_rk (mu_rf (mu_rt (mu_rm (mu_po T (nI (0))) (nI (0))) (nI (s_n σ))) (nI (s_m σ))) (cpyN (m_rk T) (fun t => s_th σ (6 * t)) i)) i (nI (s_th σ (6 * i)))).trans (congrArg (fun z => mw cy ad σ z) (by rw [mc_rk]))) dX11_isRead_50 (fun H locs hP hD hS => ?_)
        refine ln_iinc (lv' := [(1, .int (nI (i + 1))), (0, .ref (ad 0))]) hx hb dX11_isRead_51 hl (k := 0) (n := 1) rfl (by decide) rfl (fun ls hl => ?_)
        refine lv_goto (tgt := 28) hx hb dX11_isRead_54 (by decide) ?_
        have hl : lv_has ls 2 [(1, .int (nI (i + 1))), (0, .ref (ad 0))] := lv_sub hl [0, 1] rfl
        exact ih_lp (i + 1) ls _ _ (by omega) hP hD hS hl
  have hl : lv_has ls 2 [(1, .int (nI (0))), (0, .ref (ad 0))] := lv_sub hl [0, 1] rfl
  exact lp (s_n σ - 0) 0 ls _ _ (by omega) hP hD hS hl
