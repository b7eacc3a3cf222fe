def cpyN (g : Nat → Int32) (f : Nat → Nat) : Nat → Nat → Int32
  | 0 => g
  | i + 1 => upd (cpyN g f i) i (nI (f i))
theorem cpyN_lt {g : Nat → Int32} {f : Nat → Nat} : ∀ {i t : Nat}, t < i → cpyN g f i t = nI (f t)
  | 0, t, h => absurd h (by omega)
  | i + 1, t, h => by
    rw [cpyN]
    by_cases c : t = i
    · rw [c, upd_s]
    · rw [upd_o c, cpyN_lt (by omega)]
def wf1 (τ : Sg) : Prop := s_n τ ≤ 8 ∧ s_m τ ≤ 3 ∧ wfT (s_th τ) ∧ wfF (s_fe τ) ∧ ∀ f, f < s_m τ → 1 ≤ s_fe τ (5 * f + 4)
theorem wf1_of {σ : Sg} (h : wfS σ) : wf1 σ := ⟨h.1, h.2.1, h.2.2.1, h.2.2.2.1, h.2.2.2.2.2.2.2.2.2.2.1⟩
theorem th6_at {th : Nat → Nat} {n k a b t : Nat} (h : t ≠ n) {i : Nat} (hi : i < 6) : th6 th n k a b (6 * t + i) = th (6 * t + i) := by
  unfold th6
  rw [updN_o (by omega), updN_o (by omega), updN_o (by omega), updN_o (by omega), updN_o (by omega), updN_o (by omega)]
theorem th6_0 {th : Nat → Nat} {n k a b : Nat} : th6 th n k a b (6 * n) = k := by
  unfold th6
  rw [updN_o (by omega), updN_o (by omega), updN_o (by omega), updN_o (by omega), updN_o (by omega), updN_s]
theorem th6_1 {th : Nat → Nat} {n k a b : Nat} : th6 th n k a b (6 * n + 1) = a := by
  unfold th6
  rw [updN_o (by omega), updN_o (by omega), updN_o (by omega), updN_o (by omega), updN_s]
theorem th6_2 {th : Nat → Nat} {n k a b : Nat} : th6 th n k a b (6 * n + 2) = b := by
  unfold th6
  rw [updN_o (by omega), updN_o (by omega), updN_o (by omega), updN_s]
theorem th6_3 {th : Nat → Nat} {n k a b : Nat} : th6 th n k a b (6 * n + 3) = 0 := by
  unfold th6
  rw [updN_o (by omega), updN_o (by omega), updN_s]
theorem th6_4 {th : Nat → Nat} {n k a b : Nat} : th6 th n k a b (6 * n + 4) = 0 := by
  unfold th6
  rw [updN_o (by omega), updN_s]
theorem th6_5 {th : Nat → Nat} {n k a b : Nat} : th6 th n k a b (6 * n + 5) = 0 := updN_s
theorem fe5_at {fe : Nat → Nat} {m k a b c d t : Nat} (h : t ≠ m) {i : Nat} (hi : i < 5) : fe5 fe m k a b c d (5 * t + i) = fe (5 * t + i) := by
  unfold fe5
  rw [updN_o (by omega), updN_o (by omega), updN_o (by omega), updN_o (by omega), updN_o (by omega)]
theorem fe5_0 {fe : Nat → Nat} {m k a b c d : Nat} : fe5 fe m k a b c d (5 * m) = k := by
  unfold fe5
  rw [updN_o (by omega), updN_o (by omega), updN_o (by omega), updN_o (by omega), updN_s]
theorem fe5_1 {fe : Nat → Nat} {m k a b c d : Nat} : fe5 fe m k a b c d (5 * m + 1) = a := by
  unfold fe5
  rw [updN_o (by omega), updN_o (by omega), updN_o (by omega), updN_s]
theorem fe5_2 {fe : Nat → Nat} {m k a b c d : Nat} : fe5 fe m k a b c d (5 * m + 2) = b := by
  unfold fe5
  rw [updN_o (by omega), updN_o (by omega), updN_s]
theorem fe5_3 {fe : Nat → Nat} {m k a b c d : Nat} : fe5 fe m k a b c d (5 * m + 3) = c := by
  unfold fe5
  rw [updN_o (by omega), updN_s]
theorem fe5_4 {fe : Nat → Nat} {m k a b c d : Nat} : fe5 fe m k a b c d (5 * m + 4) = d := updN_s
theorem wfT_th6 {th : Nat → Nat} {n k a b : Nat} (h : wfT th) (hk : k < 4) (ha : a ≤ 99) (hb : b ≤ 1) : wfT (th6 th n k a b) := by
  intro t ht
  by_cases c : t = n
  · subst c
    rw [th6_0, th6_1, th6_2, th6_3, th6_4, th6_5]
    exact ⟨by omega, ha, hb, by omega, by omega, by omega, fun _ => rfl⟩
  · have e0 := th6_at (th := th) (k := k) (a := a) (b := b) c (show 0 < 6 by decide)
    rw [Nat.add_zero] at e0
    rw [e0, th6_at c (by decide), th6_at c (by decide), th6_at c (by decide), th6_at c (by decide), th6_at c (by decide)]
    exact h t ht
theorem wfF_fe5 {fe : Nat → Nat} {m k a b c d : Nat} (h : wfF fe) (hk : k ≤ 2) (ha : a ≤ 999) (hb : b ≤ 1) (hc : c ≤ 8) (hd : d ≤ 9) : wfF (fe5 fe m k a b c d) := by
  intro t ht
  by_cases e : t = m
  · subst e
    rw [fe5_0, fe5_1, fe5_2, fe5_3, fe5_4]
    exact ⟨hk, ha, hb, hc, hd⟩
  · have e0 := fe5_at (fe := fe) (k := k) (a := a) (b := b) (c := c) (d := d) e (show 0 < 5 by decide)
    rw [Nat.add_zero] at e0
    rw [e0, fe5_at e (by decide), fe5_at e (by decide), fe5_at e (by decide), fe5_at e (by decide)]
    exact h t ht
theorem wf1_do {τ : Sg} {k : Nat} {l : List Nat} (h : wf1 τ) (ok : okL τ k l) : wf1 (doL τ k l) := by
  obtain ⟨h1, h2, h3, h4, h5⟩ := h
  obtain ⟨k11, k1, k2, k3, k4, k5, k6⟩ := ok
  unfold doL
  split
  · rename_i c
    obtain ⟨q1, a, b, rfl, q2, q3, q4⟩ := k1 c
    exact ⟨show s_n τ + 1 ≤ 8 by omega, h2, wfT_th6 h3 c q3 q4, h4, h5⟩
  · split
    · rename_i c0 c
      obtain ⟨q1, a, b, c1, d, rfl, q2, q3, q4, q5, q6, q7, q8⟩ := k2 (by omega) c
      refine ⟨h1, show s_m τ + 1 ≤ 3 by omega, h3, wfF_fe5 h4 (by omega) q3 q4 q6 q8, fun f hf => ?_⟩
      have hf : f < s_m τ + 1 := hf
      show 1 ≤ fe5 (s_fe τ) (s_m τ) (k - 4) a b c1 d (5 * f + 4)
      by_cases e : f = s_m τ
      · rw [e, fe5_4]; exact q7
      · rw [fe5_at e (by decide)]; exact h5 f (by omega)
    · split
      · exact ⟨Nat.zero_le _, Nat.zero_le _, h3, h4, fun f hf => absurd hf (Nat.not_lt_zero f)⟩
      · split
        · rename_i c
          obtain ⟨a, b, rfl, q1, q2, q3⟩ := k4 c
          refine ⟨h1, h2, fun t ht => ?_, h4, h5⟩
          have hh := h3 t ht
          show updN (s_th τ) (6 * a + 3) b (6 * t) ≤ 3 ∧ updN (s_th τ) (6 * a + 3) b (6 * t + 1) ≤ 99 ∧ updN (s_th τ) (6 * a + 3) b (6 * t + 2) ≤ 1 ∧ updN (s_th τ) (6 * a + 3) b (6 * t + 3) ≤ 9 ∧ updN (s_th τ) (6 * a + 3) b (6 * t + 4) ≤ 9 ∧ updN (s_th τ) (6 * a + 3) b (6 * t + 5) ≤ 1 ∧ (2 ≤ updN (s_th τ) (6 * a + 3) b (6 * t) → updN (s_th τ) (6 * a + 3) b (6 * t + 3) = 0)
          rw [updN_o (j := 6 * t) (by omega), updN_o (j := 6 * t + 1) (by omega), updN_o (j := 6 * t + 2) (by omega), updN_o (j := 6 * t + 4) (by omega), updN_o (j := 6 * t + 5) (by omega)]
          by_cases e : t = a
          · rw [e, updN_s]; rw [e] at hh; exact ⟨hh.1, hh.2.1, hh.2.2.1, q3, hh.2.2.2.2.1, hh.2.2.2.2.2.1, fun q => absurd q (by omega)⟩
          · rw [updN_o (by omega)]; exact hh
        · split
          · rename_i c
            obtain ⟨a, b, rfl, q1, q2⟩ := k5 c
            refine ⟨h1, h2, fun t ht => ?_, h4, h5⟩
            have hh := h3 t ht
            show updN (s_th τ) (6 * a + 4) b (6 * t) ≤ 3 ∧ updN (s_th τ) (6 * a + 4) b (6 * t + 1) ≤ 99 ∧ updN (s_th τ) (6 * a + 4) b (6 * t + 2) ≤ 1 ∧ updN (s_th τ) (6 * a + 4) b (6 * t + 3) ≤ 9 ∧ updN (s_th τ) (6 * a + 4) b (6 * t + 4) ≤ 9 ∧ updN (s_th τ) (6 * a + 4) b (6 * t + 5) ≤ 1 ∧ (2 ≤ updN (s_th τ) (6 * a + 4) b (6 * t) → updN (s_th τ) (6 * a + 4) b (6 * t + 3) = 0)
            rw [updN_o (j := 6 * t) (by omega), updN_o (j := 6 * t + 1) (by omega), updN_o (j := 6 * t + 2) (by omega), updN_o (j := 6 * t + 3) (by omega), updN_o (j := 6 * t + 5) (by omega)]
            by_cases e : t = a
            · rw [e, updN_s]; rw [e] at hh; exact ⟨hh.1, hh.2.1, hh.2.2.1, hh.2.2.2.1, q2, hh.2.2.2.2.2.1, hh.2.2.2.2.2.2⟩
            · rw [updN_o (by omega)]; exact hh
          · obtain ⟨a, rfl, q1⟩ := k6 (by omega)
            refine ⟨h1, h2, fun t ht => ?_, h4, h5⟩
            have hh := h3 t ht
            show updN (s_th τ) (6 * a + 5) 1 (6 * t) ≤ 3 ∧ updN (s_th τ) (6 * a + 5) 1 (6 * t + 1) ≤ 99 ∧ updN (s_th τ) (6 * a + 5) 1 (6 * t + 2) ≤ 1 ∧ updN (s_th τ) (6 * a + 5) 1 (6 * t + 3) ≤ 9 ∧ updN (s_th τ) (6 * a + 5) 1 (6 * t + 4) ≤ 9 ∧ updN (s_th τ) (6 * a + 5) 1 (6 * t + 5) ≤ 1 ∧ (2 ≤ updN (s_th τ) (6 * a + 5) 1 (6 * t) → updN (s_th τ) (6 * a + 5) 1 (6 * t + 3) = 0)
            rw [updN_o (j := 6 * t) (by omega), updN_o (j := 6 * t + 1) (by omega), updN_o (j := 6 * t + 2) (by omega), updN_o (j := 6 * t + 3) (by omega), updN_o (j := 6 * t + 4) (by omega)]
            by_cases e : t = a
            · rw [e, updN_s]; rw [e] at hh; exact ⟨hh.1, hh.2.1, hh.2.2.1, hh.2.2.2.1, hh.2.2.2.2.1, Nat.le_refl _, hh.2.2.2.2.2.2⟩
            · rw [updN_o (by omega)]; exact hh
/-- all lines of a text -/
def glu (pr : List (Nat × List Nat)) : Sum Nat (List (Nat × List Nat)) → Sum Nat (List (Nat × List Nat))
  | .inl f => .inl f
  | .inr q => .inr (pr ++ q)
theorem glu_cons (pr : List (Nat × List Nat)) (x : Nat × List Nat) (y : Sum Nat (List (Nat × List Nat))) : glu pr (match y with | .inl f => .inl f | .inr q => .inr (x :: q)) = glu (pr ++ [x]) y := by
  cases y with
  | inl f => rfl
  | inr q => show Sum.inr (pr ++ x :: q) = Sum.inr (pr ++ [x] ++ q); rw [List.append_assoc]; rfl
def LBs (u : Ms) (pr : List (Nat × List Nat)) : Prop := ∀ i x, pr[i]? = some x → LB u (5 * i) x.1 x.2
theorem LBs_s {T u : Ms} {pr : List (Nat × List Nat)} {x : Nat × List Nat} (h : LBs T pr) (h1 : LB u (5 * pr.length) x.1 x.2) (h2 : ∀ i, i < 5 * pr.length → m_rd u i = m_rd T i) (h3 : ∀ i y, pr[i]? = some y → y.2.length ≤ 4) : LBs u (pr ++ [x]) := by
  intro i y hy
  by_cases c : i < pr.length
  · rw [List.getElem?_append_left c] at hy
    have hl := h i y hy
    have h4 := h3 i y hy
    exact ⟨by rw [h2 _ (by omega)]; exact hl.1, fun q hq => by rw [h2 _ (by omega)]; exact hl.2 q hq⟩
  · rw [List.getElem?_append_right (by omega)] at hy
    have hi : i = pr.length := by
      rcases (show i - pr.length = 0 ∨ 0 < i - pr.length by omega) with q | q
      · omega
      · rw [List.getElem?_eq_none (by show 1 ≤ _; omega)] at hy; cases hy
    subst hi
    rw [Nat.sub_self] at hy
    cases hy
    exact h1
def shr (pr : List (Nat × List Nat)) : Prop := ∀ i y, pr[i]? = some y → y.2.length ≤ 4
theorem shr_s {pr : List (Nat × List Nat)} {x : Nat × List Nat} (h : shr pr) (hx : x.2.length ≤ 4) : shr (pr ++ [x]) := by
  intro i y hy
  by_cases c : i < pr.length
  · rw [List.getElem?_append_left c] at hy; exact h i y hy
  · rw [List.getElem?_append_right (by omega)] at hy
    rcases (show i - pr.length = 0 ∨ 0 < i - pr.length by omega) with q | q
    · rw [q] at hy; cases hy; exact hx
    · rw [List.getElem?_eq_none (by show 1 ≤ _; omega)] at hy; cases hy
theorem okL_len {τ : Sg} {k : Nat} {l : List Nat} (h : okL τ k l) : l.length ≤ 4 := by
  obtain ⟨k11, k1, k2, k3, k4, k5, k6⟩ := h
  by_cases c1 : k < 4
  · obtain ⟨-, a, b, rfl, -⟩ := k1 c1; exact Nat.le_of_ble_eq_true rfl
  by_cases c2 : k < 7
  · obtain ⟨-, a, b, c, d, rfl, -⟩ := k2 (by omega) c2; exact Nat.le_of_ble_eq_true rfl
  by_cases c3 : k = 7
  · rw [k3 c3]; exact Nat.le_of_ble_eq_true rfl
  by_cases c4 : k = 8
  · obtain ⟨a, b, rfl, -⟩ := k4 c4; exact Nat.le_of_ble_eq_true rfl
  by_cases c5 : k = 9
  · obtain ⟨a, b, rfl, -⟩ := k5 c5; exact Nat.le_of_ble_eq_true rfl
  · obtain ⟨a, rfl, -⟩ := k6 (by omega); exact Nat.le_of_ble_eq_true rfl
def okR (τ : Sg) : List (Nat × List Nat) → Prop
  | [] => True
  | x :: xs => okL τ x.1 x.2 ∧ okR (doL τ x.1 x.2) xs
theorem rRun_ok {σ : Sg} : ∀ {k : Nat} {τ : Sg} {o : Nat} {r : List (Nat × List Nat)}, wf1 τ → rRun σ k τ o = .inr r → okR τ r ∧ r.length ≤ k
  | 0, τ, o, r, hw, h => by rw [rRun] at h; cases h
  | k + 1, τ, o, r, hw, h => by
    rw [rRun] at h
    split at h
    · cases h
    · rename_i x e
      have ok := rLine_ok hw.1 hw.2.1 e
      split at h
      · cases h; exact ⟨⟨ok, trivial⟩, by show 1 ≤ k + 1; omega⟩
      · split at h
        · split at h
          · cases h
          · rename_i q e2
            cases h
            have hh := rRun_ok (wf1_do hw ok) e2
            exact ⟨⟨ok, hh.1⟩, Nat.succ_le_succ hh.2⟩
        · cases h
theorem wf1_run : ∀ {xs : List (Nat × List Nat)} {τ : Sg}, wf1 τ → okR τ xs → wf1 (runL τ xs)
  | [], τ, h, _ => h
  | x :: xs, τ, h, ok => wf1_run (xs := xs) (wf1_do h ok.1) ok.2
def RdP (σ : Sg) (r : Int32) (u : Ms) : Prop := r = bI (rRun σ 12 σ 0).isRight ∧ match rRun σ 12 σ 0 with
  | .inl f => m_fa u = nI f
  | .inr q => m_rm u = nI q.length ∧ LBs u q
theorem RdP_f {σ : Sg} {f : Nat} {u : Ms} (h : rRun σ 12 σ 0 = .inl f) (hf : m_fa u = nI f) : RdP σ (bI false) u := by rw [RdP, h]; exact ⟨rfl, hf⟩
theorem RdP_t {σ : Sg} {q : List (Nat × List Nat)} {u : Ms} (h : rRun σ 12 σ 0 = .inr q) (h1 : m_rm u = nI q.length) (h2 : LBs u q) : RdP σ (bI true) u := by rw [RdP, h]; exact ⟨rfl, h1, h2⟩
theorem rRun_x {σ τ : Sg} {k o : Nat} {x : Nat × Nat × List Nat} (h : rLine σ τ o = .inr x) : rRun σ (k + 1) τ o = (if tC σ x.1 = -2 then .inr [x.2] else if tC σ x.1 = -3 ∧ 0 < k then (match rRun σ k (doL τ x.2.1 x.2.2) (tE σ x.1) with | .inl f => .inl f | .inr q => .inr (x.2 :: q)) else .inl (tB σ x.1)) := by rw [rRun, h]
theorem rRun_f {σ τ : Sg} {k o f : Nat} (h : rLine σ τ o = .inl f) : rRun σ (k + 1) τ o = .inl f := by rw [rRun, h]
theorem m_eta_rm (T : Ms) : mu_rm T (m_rm T) = T := rfl
theorem RT_rm {τ : Sg} {T : Ms} {o : Nat} {v : Int32} (h : RT τ T o) : RT τ (mu_rm T v) o := h
theorem LBs_rm {T : Ms} {v : Int32} {q : List (Nat × List Nat)} (h : LBs T q) : LBs (mu_rm T v) q := h
