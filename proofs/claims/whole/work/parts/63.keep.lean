/-! what a call leaves is well formed -/
theorem ix_tk {n : Nat} {x : Int32} (h : isIx n x = true) (hn : n < 2 ^ 31) : tk x < n := by
  obtain ⟨k, hk, rfl⟩ := ix_of h hn
  rw [tk_nI (by omega)]; exact hk
theorem wn_write {σ : Sg} (hw : wfS σ) (b : Int64) (n : Int32) : wfS (n_write σ b n) := by
  rw [n_write]
  split
  · rename_i c
    obtain ⟨h1, h2, h3, h4, h5, h6, h7, h8, h9, h10, h11, h12, h13, h14⟩ := hw
    refine ⟨h1, h2, h3, h4, c.2, fun i => ?_, h7, h8, h9, h10, h11, h12, h13, h14⟩
    show txW (s_tx σ) (s_ln σ) b (tk n) i < 256
    unfold txW
    split
    · unfold byteN; omega
    · exact h6 i
  · exact hw
theorem wn_erase {σ : Sg} (hw : wfS σ) : wfS (n_erase σ) := by
  obtain ⟨h1, h2, h3, h4, h5, h6, h7, h8, h9, h10, h11, h12, h13, h14⟩ := hw
  exact ⟨h1, h2, h3, h4, Nat.zero_le _, h6, h7, h8, h9, h10, h11, h12, h13, h14⟩
theorem wn_noon {σ : Sg} (hw : wfS σ) : wfS (n_noon σ) := by
  obtain ⟨h1, h2, h3, h4, h5, h6, h7, h8, h9, h10, h11, h12, h13, h14⟩ := hw
  exact ⟨h1, h2, h3, h4, h5, h6, h7, h8, h9, h10, h11, h12, h13, h14⟩
theorem wn_burn {σ : Sg} (hw : wfS σ) : wfS (n_burn σ) := by
  obtain ⟨h1, h2, h3, h4, h5, h6, h7, h8, h9, h10, h11, h12, h13, h14⟩ := hw
  exact ⟨h1, h2, h3, h4, h5, h6, h7, h8, h9, Nat.zero_le _, h11, fun k hk => absurd hk (Nat.not_lt_zero _), h13, h14⟩
theorem wn_cross {σ : Sg} (hw : wfS σ) (f x : Int32) : wfS (n_cross σ f x) := by
  rw [n_cross]
  split
  · rename_i c
    obtain ⟨h1, h2, h3, h4, h5, h6, h7, h8, h9, h10, h11, h12, h13, h14⟩ := hw
    have hp8 := pw_8 h1
    have hf := ix_tk c.1 (by omega)
    have hx := ix_tk c.2.1 (by omega)
    exact ⟨h1, h2, h3, h4, h5, h6, Nat.xor_lt_two_pow h7 hx, Nat.xor_lt_two_pow h8 (pw_lt hf), h9, h10, h11, h12, h13, h14⟩
  · exact hw
theorem wn_doff {σ : Sg} (hw : wfS σ) (t : Int32) : wfS (n_doff σ t) := by
  rw [n_doff]
  split
  · rename_i c
    obtain ⟨h1, h2, h3, h4, h5, h6, h7, h8, h9, h10, h11, h12, h13, h14⟩ := hw
    have ht := ix_tk c.1 (by omega)
    exact ⟨h1, h2, h3, h4, h5, h6, h7, h8, Nat.xor_lt_two_pow h9 (pw_lt ht), h10, h11, h12, h13, h14⟩
  · exact hw
theorem wn_keep {σ : Sg} (hw : wfS σ) (k : Int32) : wfS (n_keep σ k) := by
  rw [n_keep]
  split
  · rename_i c
    obtain ⟨h1, h2, h3, h4, h5, h6, h7, h8, h9, h10, h11, h12, h13, h14⟩ := hw
    have hk := ix_tk c (by decide)
    generalize tk k = k0 at hk
    have hla := la_le1 (s_la σ)
    refine ⟨h1, h2, h3, h4, h5, h6, h7, h8, h9, h10, h11, h12, fun j hj hq => ?_, fun j hj => ?_⟩
    · show imK σ k0 (5 * j) < 2 ^ s_n σ ∧ imK σ k0 (5 * j + 1) < 2 ^ s_m σ ∧ imK σ k0 (5 * j + 2) < 2 ^ s_n σ
      have hq : updB (s_kp σ) k0 true j = true := hq
      unfold imK
      by_cases e : j = k0
      · subst e
        rw [if_pos rfl, if_neg (by omega), if_pos rfl, if_neg (by omega), if_neg (by omega), if_pos rfl]
        exact ⟨h7, h8, h9⟩
      · rw [updB, if_neg e] at hq
        have hh := h13 j hj hq
        rw [if_neg (by omega), if_neg (by omega), if_neg (by omega), if_neg (by omega), if_neg (by omega), if_neg (by omega), if_neg (by omega), if_neg (by omega), if_neg (by omega), if_neg (by omega), if_neg (by omega), if_neg (by omega), if_neg (by omega), if_neg (by omega), if_neg (by omega)]
        exact hh
    · show imK σ k0 (5 * j + 3) ≤ 1
      unfold imK
      by_cases e : j = k0
      · subst e
        rw [if_neg (by omega), if_neg (by omega), if_neg (by omega), if_pos rfl]
        exact hla
      · rw [if_neg (by omega), if_neg (by omega), if_neg (by omega), if_neg (by omega), if_neg (by omega)]
        exact h14 j hj
  · exact hw
theorem wn_back {σ : Sg} (hw : wfS σ) (k : Int32) : wfS (n_back σ k) := by
  rw [n_back]
  split
  · rename_i c
    exact wfS_back hw (ix_tk c.1 (by decide)) c.2
  · exact hw
theorem wn_row {σ : Sg} (hw : wfS σ) (f x : Int32) : wfS (n_row σ f x) := by
  rw [n_row]
  split
  · rename_i c
    obtain ⟨h1, h2, h3, h4, h5, h6, h7, h8, h9, h10, h11, h12, h13, h14⟩ := hw
    have hp8 := pw_8 h1
    have hf := ix_tk c.1 (by omega)
    have hx := ix_tk c.2.1 (by omega)
    have hr := c.2.2
    refine ⟨h1, h2, h3, h4, h5, h6, h7, h8, h9, hr, h11, fun k hk => ?_, h13, h14⟩
    have hk : k < s_rn σ + 1 := hk
    show roA σ (tk f) (tk x) (2 * k) < s_m σ ∧ roA σ (tk f) (tk x) (2 * k + 1) < 2 ^ s_n σ
    unfold roA updN
    by_cases e : k = s_rn σ
    · subst e
      rw [if_neg (by omega), if_pos rfl, if_pos rfl]
      exact ⟨hf, hx⟩
    · rw [if_neg (by omega), if_neg (by omega), if_neg (by omega), if_neg (by omega)]
      exact h12 k (by omega)
  · exact hw
theorem do_same (τ : Sg) (k : Nat) (l : List Nat) : s_tx (doL τ k l) = s_tx τ ∧ s_im (doL τ k l) = s_im τ := by
  unfold doL
  (repeat' split) <;> exact ⟨rfl, rfl⟩
theorem run_same : ∀ (xs : List (Nat × List Nat)) (τ : Sg), s_tx (runL τ xs) = s_tx τ ∧ s_im (runL τ xs) = s_im τ
  | [], τ => ⟨rfl, rfl⟩
  | x :: xs, τ => by
    have h1 := run_same xs (doL τ x.1 x.2)
    have h2 := do_same τ x.1 x.2
    exact ⟨h1.1.trans h2.1, h1.2.trans h2.2⟩
theorem day_all (τ : Sg) : s_n (day τ) = s_n τ ∧ s_m (day τ) = s_m τ ∧ s_th (day τ) = s_th τ ∧ s_fe (day τ) = s_fe τ ∧ s_ln (day τ) = 0 ∧ s_tx (day τ) = s_tx τ ∧ s_ov (day τ) = orM (fun t => s_th τ (6 * t + 2)) (s_n τ) ∧ s_mo (day τ) = orM (fun f => s_fe τ (5 * f + 2)) (s_m τ) ∧ s_of (day τ) = 0 ∧ s_rn (day τ) = 0 ∧ s_kp (day τ) = updB (updB (s_kp τ) 0 false) 1 false ∧ s_im (day τ) = s_im τ := by
  unfold day
  dsimp only [su_ln, su_kp, su_rn, su_cr, su_la, su_of, su_mo, su_ov, s_n, s_th, s_m, s_fe, s_ln, s_tx, s_ov, s_mo, s_of, s_la, s_cr, s_im, s_kp, s_rn, s_ro]
  exact ⟨rfl, rfl, rfl, rfl, rfl, rfl, rfl, rfl, rfl, rfl, rfl, rfl⟩
theorem wn_shore {σ : Sg} (hw : wfS σ) : wfS (n_shore σ) := by
  rw [n_shore]
  cases hR : rRun σ 12 σ 0 with
  | inl f => exact hw
  | inr r =>
    show wfS (day (runL σ r))
    have h1 := wf1_run (wf1_of hw) (rRun_ok (wf1_of hw) hR).1
    have h2 := run_same r σ
    obtain ⟨e1, e2, e3, e4, e5, e6, e7, e8, e9, e10, e11, e12⟩ := day_all (runL σ r)
    obtain ⟨a1, a2, a3, a4, a5⟩ := h1
    unfold wfS
    rw [e1, e2, e3, e4, e5, e6, e7, e8, e9, e10, e11, e12, h2.1, h2.2]
    refine ⟨a1, a2, a3, a4, Nat.zero_le _, hw.2.2.2.2.2.1, orM_lt (fun t ht => (a3 t (by omega)).2.2.1), orM_lt (fun f hf => (a4 f (by omega)).2.2.1), Nat.two_pow_pos _, Nat.zero_le _, a5, fun k hk => absurd hk (Nat.not_lt_zero _), fun k hk hq => ?_, hw.2.2.2.2.2.2.2.2.2.2.2.2.2⟩
    rcases (show k = 0 ∨ k = 1 by omega) with rfl | rfl <;> cases hq
theorem wf_0 : wfS sg0 := by
  refine ⟨Nat.zero_le _, Nat.zero_le _, fun t _ => ⟨Nat.zero_le _, Nat.zero_le _, Nat.zero_le _, Nat.zero_le _, Nat.zero_le _, Nat.zero_le _, fun _ => rfl⟩, fun f _ => ⟨Nat.zero_le _, Nat.zero_le _, Nat.zero_le _, Nat.zero_le _, Nat.zero_le _⟩, Nat.zero_le _, fun i => by show 0 < 256; decide, by show 0 < 2 ^ 0; decide, by show 0 < 2 ^ 0; decide, by show 0 < 2 ^ 0; decide, Nat.zero_le _, fun f hf => absurd hf (Nat.not_lt_zero _), fun k hk => absurd hk (Nat.not_lt_zero _), fun k _ hq => (by cases hq), fun k _ => Nat.zero_le _⟩
theorem wfJ_0 : wfJ sg0 js0 := by
  refine ⟨rfl, rfl, rfl, fun x hx => ?_⟩
  have hx : x < 1 := hx
  rw [show x = 0 by omega]
  rfl
