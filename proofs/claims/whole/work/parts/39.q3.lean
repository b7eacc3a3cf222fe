/-! three queues: what the class's search by minutes keeps -/
def qI (σ : Sg) (goal : Nat → Bool) (Z : Ss) (P : Nat → Bool) (cur : Nat) (pp : Nat → Nat) (R : Nat → Nat → Nat → Prop) : Prop :=
  (∀ v, v < 2048 → z_co Z v = 1048576 ∨ (z_co Z v ≤ 9 * cntN P 2048 ∧ ∃ k, pth σ k v (z_co Z v))) ∧
  (∀ u f x, R u f x → P u = true → f < s_m σ → x < 2 ^ s_n σ → edge σ u f x = true → z_co Z (stp u f x) ≤ z_co Z u + mi σ f) ∧
  (∀ u, P u = true → z_co Z u ≤ cur ∧ u < 2048 ∧ goal u = false) ∧ (∀ v, v < 2048 → P v = false → cur ≤ z_co Z v) ∧ (cur + 9 ≤ 9 * cntN P 2048 ∨ cur = 0) ∧ z_co Z (st0 σ) = 0 ∧
  (∀ q, q < 3 → q * 2048 ≤ z_hd Z q ∧ z_hd Z q ≤ z_tl Z q ∧ z_tl Z q ≤ (q + 1) * 2048) ∧
  (∀ q j, q < 3 → q * 2048 ≤ j → j < z_tl Z q → z_wa Z j < 2048 ∧ z_co Z (z_wa Z j) ≤ pp j ∧ pp j ≤ cur + mi σ q) ∧
  (∀ q j k, q < 3 → q * 2048 ≤ j → j ≤ k → k < z_tl Z q → pp j ≤ pp k) ∧
  (∀ v, v < 2048 → P v = false → z_co Z v < 1048576 → ∃ q j, q < 3 ∧ z_hd Z q ≤ j ∧ j < z_tl Z q ∧ z_wa Z j = v ∧ pp j = z_co Z v) ∧
  (∀ q j k, q < 3 → q * 2048 ≤ j → j < k → k < z_tl Z q → z_wa Z j ≠ z_wa Z k)
theorem cntP_le (P : Nat → Bool) : cntN P 2048 ≤ 2048 := cntN_le P 2048
theorem cnt_ge1 {P : Nat → Bool} {a n : Nat} (h : a < n) (hp : P a = true) : 1 ≤ cntN P n := by
  have h1 := cnt_mono (p := P) (a := a + 1) (n - (a + 1))
  rw [show a + 1 + (n - (a + 1)) = n by omega, ← cntN_t hp] at h1
  omega
theorem mi9 {σ : Sg} (hw : wfS σ) {q : Nat} (hq : q < 3) : mi σ q ≤ 9 := (hw.2.2.2.1 q hq).2.2.2.2
theorem q_ok {σ : Sg} (hw : wfS σ) {goal : Nat → Bool} {Z : Ss} {P : Nat → Bool} {cur : Nat} {pp : Nat → Nat} {R : Nat → Nat → Nat → Prop} (h : qI σ goal Z P cur pp R) : zOk Z ∧ zQ Z := by
  have hc := cntP_le P
  obtain ⟨h1, h2, h3, h4, h5, h6, h7, h8, h9, h10, h11⟩ := h
  refine ⟨⟨fun v hv => ?_, fun q hq => (h7 q hq).2.2⟩, fun q hq => ?_⟩
  · rcases h1 v hv with e | ⟨e, -⟩ <;> omega
  · have g := h7 q hq
    have : (q + 1) * 2048 ≤ 6144 := by have := Nat.mul_le_mul_right 2048 (show q + 1 ≤ 3 by omega); omega
    refine ⟨by omega, by omega, fun c => ?_⟩
    obtain ⟨e1, e2, e3⟩ := h8 q (z_hd Z q) hq g.1 c
    have := mi9 hw hq
    exact ⟨e1, by unfold lvW; omega⟩
/-- the head that is chosen is as near as any that is not settled -/
theorem q_min {σ : Sg} {goal : Nat → Bool} {Z : Ss} {P : Nat → Bool} {cur : Nat} {pp : Nat → Nat} {R : Nat → Nat → Nat → Prop} (hw : wfS σ) (h : qI σ goal Z P cur pp R) {q : Nat} (hs : lwt (lvP Z) (lvW Z) 3 = some q) : q < 3 ∧ z_hd Z q < z_tl Z q ∧ ∀ v, v < 2048 → P v = false → z_co Z (z_wa Z (z_hd Z q)) ≤ z_co Z v := by
  have hq := lwt_lt hs
  have hch := lwt_char hs
  have hlive := of_decide_eq_true hch.1
  refine ⟨hq, hlive, fun v hv hp => ?_⟩
  obtain ⟨h1, h2, h3, h4, h5, h6, h7, h8, h9, h10, h11⟩ := h
  have hc := cntP_le P
  rcases h1 v hv with e | ⟨e, -⟩
  · have := h8 q (z_hd Z q) hq (h7 q hq).1 hlive
    have := mi9 hw hq
    omega
  · obtain ⟨q', j, hq', hj1, hj2, hj3, hj4⟩ := h10 v hv hp (by omega)
    have hl' : lvP Z q' = true := decide_eq_true (by omega)
    have g1 := hch.2 q' hq' hl'
    have g2 := h8 q' (z_hd Z q') hq' (h7 q' hq').1 (by omega)
    have g3 := h9 q' (z_hd Z q') j hq' (h7 q' hq').1 hj1 hj2
    unfold lexLe lvW at g1
    omega
theorem q_emp {σ : Sg} {goal : Nat → Bool} {Z : Ss} {P : Nat → Bool} {cur : Nat} {pp : Nat → Nat} {R : Nat → Nat → Nat → Prop} (h : qI σ goal Z P cur pp R) (hs : ∀ q, q < 3 → z_tl Z q ≤ z_hd Z q) : ∀ v, v < 2048 → P v = false → 1048576 ≤ z_co Z v := by
  intro v hv hp
  obtain ⟨h1, h2, h3, h4, h5, h6, h7, h8, h9, h10, h11⟩ := h
  refine Nat.not_lt.mp (fun c => ?_)
  obtain ⟨q', j, hq', hj1, hj2, -, -⟩ := h10 v hv hp c
  have := hs q' hq'
  omega
theorem lwt3_none {Z : Ss} (hs : lwt (lvP Z) (lvW Z) 3 = none) : ∀ q, q < 3 → z_tl Z q ≤ z_hd Z q := fun q hq => Nat.not_lt.mp (of_decide_eq_false (lwt_char.lwt_no hs q hq))
theorem pth_2048 {σ : Sg} (hw : wfS σ) : ∀ {k v c : Nat}, pth σ k v c → v < 2048
  | 0, v, c, h => by rw [h.1]; exact st0_lt hw
  | k + 1, v, c, h => by
    obtain ⟨s', c', f, x, hp, hf, hx, -, rfl, -⟩ := h
    have h1 := pw_8 hw.1
    have h2 := hw.2.1
    exact stp_lt (pth_2048 hw hp) (by omega) (by omega)
theorem q_none {σ : Sg} (hw : wfS σ) {goal : Nat → Bool} {Z : Ss} {P : Nat → Bool} {cur : Nat} {pp : Nat → Nat} (h : qI σ goal Z P cur pp (fun _ _ _ => True)) (hs : ∀ q, q < 3 → z_tl Z q ≤ z_hd Z q) : isSoon σ goal (-1) := by
  have hall := q_emp h hs
  obtain ⟨h1, h2, h3, h4, h5, h6, h7, h8, h9, h10, h11⟩ := h
  have hc := cntP_le P
  have key : ∀ {k v c : Nat}, pth σ k v c → P v = true := by
    intro k
    induction k with
    | zero =>
      rintro v c ⟨rfl, rfl⟩
      cases hd : P (st0 σ) with
      | true => rfl
      | false => have := hall _ (st0_lt hw) hd; omega
    | succ k ih =>
      intro v c hp
      have hv := pth_2048 hw hp
      obtain ⟨s', c', f, x, hp', hf, hx, he, rfl, rfl⟩ := hp
      have hd := ih hp'
      cases hq : P (stp s' f x) with
      | true => rfl
      | false =>
        have g1 := hall _ hv hq
        have g2 := h2 s' f x trivial hd hf hx he
        have g3 := (h3 s' hd).1
        have g4 := mi_le hw hf
        omega
  exact Or.inr ⟨rfl, fun k v c hp => (h3 v (key hp)).2.2⟩
theorem q_cut {σ : Sg} (hw : wfS σ) {goal : Nat → Bool} {Z : Ss} {P : Nat → Bool} {cur : Nat} {pp : Nat → Nat} (h : qI σ goal Z P cur pp (fun _ _ _ => True)) {t : Nat} (ht : ∀ v, v < 2048 → P v = false → t ≤ z_co Z v) : ∀ {k v c : Nat}, pth σ k v c → (P v = true ∧ z_co Z v ≤ c) ∨ t ≤ c
  | 0, v, c, hp => by
    obtain ⟨rfl, rfl⟩ := hp
    have h0 := h.2.2.2.2.2.1
    cases hd : P (st0 σ) with
    | true => exact Or.inl ⟨rfl, by omega⟩
    | false => exact Or.inr (by have := ht _ (st0_lt hw) hd; omega)
  | k + 1, v, c, hp => by
    have hv := pth_2048 hw hp
    obtain ⟨s', c', f, x, hp', hf, hx, he, rfl, rfl⟩ := hp
    rcases q_cut hw h ht hp' with ⟨hd, hm⟩ | q
    · have hr := h.2.1 s' f x trivial hd hf hx he
      cases hq : P (stp s' f x) with
      | true => exact Or.inl ⟨rfl, by omega⟩
      | false => exact Or.inr (by have := ht _ hv hq; omega)
    · exact Or.inr (by omega)
theorem q_found {σ : Sg} (hw : wfS σ) {goal : Nat → Bool} {Z : Ss} {P : Nat → Bool} {cur : Nat} {pp : Nat → Nat} (h : qI σ goal Z P cur pp (fun _ _ _ => True)) {q : Nat} (hs : lwt (lvP Z) (lvW Z) 3 = some q) (hg : goal (z_wa Z (z_hd Z q)) = true) : isSoon σ goal (nI (z_co Z (z_wa Z (z_hd Z q)))) := by
  obtain ⟨hq, hl, hmin⟩ := q_min hw h hs
  have hcut := fun {k v c : Nat} (hp : pth σ k v c) => q_cut hw h hmin hp
  obtain ⟨h1, h2, h3, h4, h5, h6, h7, h8, h9, h10, h11⟩ := h
  have e := h8 q (z_hd Z q) hq (h7 q hq).1 hl
  have hc := cntP_le P
  have := mi9 hw hq
  rcases h1 _ e.1 with r | ⟨r, k, hk⟩
  · omega
  · refine Or.inl ⟨_, rfl, by omega, ⟨k, _, hk, hg⟩, fun k' s c hp hgs => ?_⟩
    rcases hcut hp with ⟨hd, -⟩ | q
    · rw [(h3 s hd).2.2] at hgs; cases hgs
    · exact q
/-- a head that is settled already goes -/
theorem q_old {σ : Sg} {goal : Nat → Bool} {Z : Ss} {P : Nat → Bool} {cur : Nat} {pp : Nat → Nat} {R : Nat → Nat → Nat → Prop} (h : qI σ goal Z P cur pp R) {q : Nat} (hq : q < 3) (hl : z_hd Z q < z_tl Z q) (hp : P (z_wa Z (z_hd Z q)) = true) : qI σ goal (zHd Z q (z_hd Z q + 1)) P cur pp R := by
  obtain ⟨h1, h2, h3, h4, h5, h6, h7, h8, h9, h10, h11⟩ := h
  refine ⟨h1, h2, h3, h4, h5, h6, fun r hr => ?_, h8, h9, fun v hv hpv hc => ?_, h11⟩
  · have g := h7 r hr
    show r * 2048 ≤ updN (z_hd Z) q (z_hd Z q + 1) r ∧ updN (z_hd Z) q (z_hd Z q + 1) r ≤ z_tl Z r ∧ z_tl Z r ≤ (r + 1) * 2048
    unfold updN
    by_cases e : r = q
    · subst e; rw [if_pos rfl]; exact ⟨by omega, by omega, g.2.2⟩
    · rw [if_neg e]; exact g
  · obtain ⟨r, j, hr, hj1, hj2, hj3, hj4⟩ := h10 v hv hpv hc
    refine ⟨r, j, hr, ?_, hj2, hj3, hj4⟩
    show updN (z_hd Z) q (z_hd Z q + 1) r ≤ j
    unfold updN
    by_cases e : r = q
    · subst e; rw [if_pos rfl]
      rcases (show j = z_hd Z r ∨ z_hd Z r + 1 ≤ j by omega) with e2 | e2
      · rw [e2] at hj3; rw [hj3, hpv] at hp; cases hp
      · exact e2
    · rw [if_neg e]; exact hj1
/-- a head that is not settled is settled; its edges are not looked at yet -/
theorem q_new {σ : Sg} (hw : wfS σ) {goal : Nat → Bool} {Z : Ss} {P : Nat → Bool} {cur : Nat} {pp : Nat → Nat} (h : qI σ goal Z P cur pp (fun _ _ _ => True)) {q : Nat} (hs : lwt (lvP Z) (lvW Z) 3 = some q) (hp : P (z_wa Z (z_hd Z q)) = false) (hg : goal (z_wa Z (z_hd Z q)) = false) : qI σ goal (zHd Z q (z_hd Z q + 1)) (updB P (z_wa Z (z_hd Z q)) true) (z_co Z (z_wa Z (z_hd Z q))) pp (fun u _ _ => u ≠ z_wa Z (z_hd Z q)) := by
  obtain ⟨hq, hl, hmin⟩ := q_min hw h hs
  obtain ⟨h1, h2, h3, h4, h5, h6, h7, h8, h9, h10, h11⟩ := h
  have e := h8 q (z_hd Z q) hq (h7 q hq).1 hl
  have hc := cntP_le P
  have hm9 := mi9 hw hq
  have hcc := cnt_upd (D := P) hp (n := 2048) e.1
  have hco : z_co Z (z_wa Z (z_hd Z q)) ≤ 9 * cntN P 2048 := by
    rcases h1 _ e.1 with r | ⟨r, -⟩ <;> omega
  have hcur : cur ≤ z_co Z (z_wa Z (z_hd Z q)) := h4 _ e.1 hp
  generalize hat : z_wa Z (z_hd Z q) = a at *
  have hP' : ∀ v, updB P a true v = true → v = a ∨ P v = true := fun v hv => by
    by_cases r : v = a
    · exact Or.inl r
    · rw [updB, if_neg r] at hv; exact Or.inr hv
  have hF' : ∀ v, updB P a true v = false → v ≠ a ∧ P v = false := fun v hv => by
    by_cases r : v = a
    · rw [updB, if_pos r] at hv; cases hv
    · rw [updB, if_neg r] at hv; exact ⟨r, hv⟩
  refine ⟨fun v hv => ?_, fun u f x hu hpu hf hx he => ?_, fun u hu => ?_, fun v hv hpv => hmin v hv (hF' v hpv).2, Or.inl (by omega), h6, fun r hr => ?_, fun r j hr hj1 hj2 => ?_, h9, fun v hv hpv hc2 => ?_, h11⟩
  · rcases h1 v hv with r | ⟨r, k⟩
    · exact Or.inl r
    · exact Or.inr ⟨by show z_co Z v ≤ _; omega, k⟩
  · rcases hP' u hpu with r | r
    · exact absurd r hu
    · exact h2 u f x trivial r hf hx he
  · rcases hP' u hu with rfl | r
    · exact ⟨Nat.le_refl _, e.1, hg⟩
    · have := h3 u r; exact ⟨by show z_co Z u ≤ _; omega, this.2⟩
  · have g := h7 r hr
    show r * 2048 ≤ updN (z_hd Z) q (z_hd Z q + 1) r ∧ updN (z_hd Z) q (z_hd Z q + 1) r ≤ z_tl Z r ∧ z_tl Z r ≤ (r + 1) * 2048
    unfold updN
    by_cases e2 : r = q
    · subst e2; rw [if_pos rfl]; exact ⟨by omega, by omega, g.2.2⟩
    · rw [if_neg e2]; exact g
  · have g := h8 r j hr hj1 hj2
    exact ⟨g.1, g.2.1, by omega⟩
  · obtain ⟨hva, hpv2⟩ := hF' v hpv
    obtain ⟨r, j, hr, hj1, hj2, hj3, hj4⟩ := h10 v hv hpv2 hc2
    refine ⟨r, j, hr, ?_, hj2, hj3, hj4⟩
    show updN (z_hd Z) q (z_hd Z q + 1) r ≤ j
    unfold updN
    by_cases e2 : r = q
    · subst e2; rw [if_pos rfl]
      rcases (show j = z_hd Z r ∨ z_hd Z r + 1 ≤ j by omega) with e3 | e3
      · rw [e3, hat] at hj3; exact absurd hj3.symm hva
      · exact e3
    · rw [if_neg e2]; exact hj1
/-- one edge of the settled one -/
theorem q_edge {σ : Sg} (hw : wfS σ) {goal : Nat → Bool} {Z : Ss} {P : Nat → Bool} {pp : Nat → Nat} {R : Nat → Nat → Nat → Prop} {a f x : Nat} (h : qI σ goal Z P (z_co Z a) pp R) (ha : P a = true) (hf : f < s_m σ) (hx : x < 2 ^ s_n σ) (he : edge σ a f x = true) : ∃ pp', qI σ goal (rcF (stp a f x) (256 * f + x) (z_co Z a + mi σ f) f Z) P (z_co (rcF (stp a f x) (256 * f + x) (z_co Z a + mi σ f) f Z) a) pp' (fun u g y => R u g y ∨ (u = a ∧ g = f ∧ y = x)) := by
  have hm := hw.2.1
  have h8n := pw_8 hw.1
  have hmi1 : 1 ≤ mi σ f := hw.2.2.2.2.2.2.2.2.2.2.1 f hf
  have hmi9 := mi_le hw hf
  obtain ⟨h1, h2, h3, h4, h5, h6, h7, h8, h9, h10, h11⟩ := h
  have ha2 := h3 a ha
  have hv := stp_lt ha2.2.1 (show f < 3 by omega) (show x < 256 by omega)
  have hc := cntP_le P
  by_cases hlt : z_co Z a + mi σ f < z_co Z (stp a f x)
  · -- it is nearer
    have hpto : P (stp a f x) = false := by
      cases hq : P (stp a f x) with
      | false => rfl
      | true => have := (h3 _ hq).1; omega
    have hnotin : ∀ j, f * 2048 ≤ j → j < z_tl Z f → z_wa Z j ≠ stp a f x := fun j hj1 hj2 e => by
      have g := h8 f j (by omega) hj1 hj2
      rw [e] at g
      omega
    have g7 := h7 f (by omega)
    have hroom : z_tl Z f < (f + 1) * 2048 := by
      have key := fb_holes 2048 (z_tl Z f - f * 2048 + 1) (fun j => if j < z_tl Z f - f * 2048 then z_wa Z (f * 2048 + j) else stp a f x) (fun j hj => by
        by_cases q : j < z_tl Z f - f * 2048
        · simp only [if_pos q]; exact (h8 f (f * 2048 + j) (by omega) (by omega) (by omega)).1
        · simp only [if_neg q]; exact hv) (fun i j hij hj => by
        by_cases q : j < z_tl Z f - f * 2048
        · simp only [if_pos q, if_pos (show i < z_tl Z f - f * 2048 by omega)]
          exact h11 f (f * 2048 + i) (f * 2048 + j) (by omega) (by omega) (by omega) (by omega)
        · simp only [if_neg q, if_pos (show i < z_tl Z f - f * 2048 by omega)]
          exact hnotin _ (by omega) (by omega))
      rw [Nat.add_mul]; omega
    have hane : a ≠ stp a f x := fun e => by rw [← e, ha] at hpto; cases hpto
    have hco_ne : ∀ u, u ≠ stp a f x → z_co (rcP (stp a f x) (256 * f + x) (z_co Z a + mi σ f) f Z) u = z_co Z u := fun u hu => updN_ne _ _ hu
    have hco_to : z_co (rcP (stp a f x) (256 * f + x) (z_co Z a + mi σ f) f Z) (stp a f x) = z_co Z a + mi σ f := updN_at _ _ _
    have hco_le : ∀ u, z_co (rcP (stp a f x) (256 * f + x) (z_co Z a + mi σ f) f Z) u ≤ z_co Z u := fun u => by
      by_cases e : u = stp a f x
      · rw [e, hco_to]; omega
      · rw [hco_ne u e]; exact Nat.le_refl _
    have hpne : ∀ u, P u = true → u ≠ stp a f x := fun u hu e => by rw [e, hpto] at hu; cases hu
    have htl_f : z_tl (rcP (stp a f x) (256 * f + x) (z_co Z a + mi σ f) f Z) f = z_tl Z f + 1 := updN_at _ _ _
    have htl_n : ∀ r, r ≠ f → z_tl (rcP (stp a f x) (256 * f + x) (z_co Z a + mi σ f) f Z) r = z_tl Z r := fun r hr => updN_ne _ _ hr
    have hwa_t : z_wa (rcP (stp a f x) (256 * f + x) (z_co Z a + mi σ f) f Z) (z_tl Z f) = stp a f x := updN_at _ _ _
    have hwa_n : ∀ j, j ≠ z_tl Z f → z_wa (rcP (stp a f x) (256 * f + x) (z_co Z a + mi σ f) f Z) j = z_wa Z j := fun j hj => updN_ne _ _ hj
    -- a place of another queue is not the new one
    have hother : ∀ r j, r < 3 → r ≠ f → r * 2048 ≤ j → j < z_tl Z r → j ≠ z_tl Z f := fun r j hr hrf hj1 hj2 e => by
      have gr := h7 r hr
      have e1 : (r + 1) * 2048 = r * 2048 + 2048 := by rw [Nat.add_mul, Nat.one_mul]
      have e2 : (f + 1) * 2048 = f * 2048 + 2048 := by rw [Nat.add_mul, Nat.one_mul]
      rcases (show r < f ∨ f < r by omega) with q | q
      · have := Nat.mul_le_mul_right 2048 (show r + 1 ≤ f by omega); omega
      · have := Nat.mul_le_mul_right 2048 (show f + 1 ≤ r by omega); omega
    rw [rcF, if_pos ⟨hlt, hroom⟩, hco_ne a hane]
    refine ⟨updN pp (z_tl Z f) (z_co Z a + mi σ f), fun v hv2 => ?_, fun u g y hR hpu hg hy heu => ?_, fun u hu => ?_, fun v hv2 hpv => ?_, h5, ?_, fun r hr => ?_, fun r j hr hj1 hj2 => ?_, fun r j k hr hj1 hjk hk => ?_, fun v hv2 hpv hc2 => ?_, fun r j k hr hj1 hjk hk => ?_⟩
    · by_cases e : v = stp a f x
      · rw [e, hco_to]
        rcases h1 a ha2.2.1 with r | ⟨r, k, hk⟩
        · omega
        · refine Or.inr ⟨?_, k + 1, a, _, f, x, hk, hf, hx, he, rfl, rfl⟩
          have h1c := cnt_ge1 ha2.2.1 ha
          rcases h5 with q | q <;> omega
      · rw [hco_ne v e]; exact h1 v hv2
    · rw [hco_ne u (hpne u hpu)]
      rcases hR with hR | ⟨rfl, rfl, rfl⟩
      · exact Nat.le_trans (hco_le _) (h2 u g y hR hpu hg hy heu)
      · rw [hco_to]; exact Nat.le_refl _
    · rw [hco_ne u (hpne u hu)]; exact h3 u hu
    · by_cases e : v = stp a f x
      · rw [e, hco_to]; omega
      · rw [hco_ne v e]; exact h4 v hv2 hpv
    · have : st0 σ ≠ stp a f x := fun e => by rw [← e, h6] at hlt; omega
      rw [hco_ne _ this]; exact h6
    · have g := h7 r hr
      by_cases e : r = f
      · subst e; rw [htl_f]; exact ⟨g.1, by show z_hd Z r ≤ _; omega, by omega⟩
      · rw [htl_n r e]; exact g
    · by_cases e : r = f
      · subst e
        rw [htl_f] at hj2
        by_cases e2 : j = z_tl Z r
        · rw [e2, hwa_t, hco_to, updN_at]; exact ⟨hv, Nat.le_refl _, Nat.le_refl _⟩
        · have g := h8 r j hr hj1 (by omega)
          rw [hwa_n j e2, updN_ne _ _ e2]
          exact ⟨g.1, Nat.le_trans (hco_le _) g.2.1, g.2.2⟩
      · rw [htl_n r e] at hj2
        have e2 := hother r j hr e hj1 hj2
        have g := h8 r j hr hj1 hj2
        rw [hwa_n j e2, updN_ne _ _ e2]
        exact ⟨g.1, Nat.le_trans (hco_le _) g.2.1, g.2.2⟩
    · by_cases e : r = f
      · subst e
        rw [htl_f] at hk
        by_cases e2 : k = z_tl Z r
        · rw [e2, updN_at]
          by_cases e3 : j = z_tl Z r
          · rw [e3, updN_at]; exact Nat.le_refl _
          · rw [updN_ne _ _ e3]; exact (h8 r j hr hj1 (by omega)).2.2
        · rw [updN_ne _ _ e2, updN_ne _ _ (show j ≠ z_tl Z r by omega)]
          exact h9 r j k hr hj1 hjk (by omega)
      · rw [htl_n r e] at hk
        rw [updN_ne _ _ (hother r k hr e (by omega) hk), updN_ne _ _ (hother r j hr e hj1 (by omega))]
        exact h9 r j k hr hj1 hjk hk
    · by_cases e : v = stp a f x
      · refine ⟨f, z_tl Z f, by omega, g7.2.1, by rw [htl_f]; omega, by rw [hwa_t, e], by rw [updN_at, e, hco_to]⟩
      · rw [hco_ne v e] at hc2
        obtain ⟨r, j, hr, hj1, hj2, hj3, hj4⟩ := h10 v hv2 hpv hc2
        have gr := h7 r hr
        have e2 : j ≠ z_tl Z f := by
          by_cases e3 : r = f
          · subst e3; omega
          · exact hother r j hr e3 (by omega) hj2
        refine ⟨r, j, hr, hj1, ?_, by rw [hwa_n j e2]; exact hj3, by rw [updN_ne _ _ e2, hco_ne v e]; exact hj4⟩
        by_cases e3 : r = f
        · subst e3; rw [htl_f]; omega
        · rw [htl_n r e3]; exact hj2
    · by_cases e : r = f
      · subst e
        rw [htl_f] at hk
        by_cases e2 : k = z_tl Z r
        · rw [e2, hwa_t, hwa_n j (by omega)]; exact hnotin j hj1 (by omega)
        · rw [hwa_n k e2, hwa_n j (by omega)]; exact h11 r j k hr hj1 hjk (by omega)
      · rw [htl_n r e] at hk
        rw [hwa_n k (hother r k hr e (by omega) hk), hwa_n j (hother r j hr e hj1 (by omega))]
        exact h11 r j k hr hj1 hjk hk
  · rw [rcF, if_neg (fun q => hlt q.1)]
    refine ⟨pp, h1, fun u g y hR hpu hg hy heu => ?_, h3, h4, h5, h6, h7, h8, h9, h10, h11⟩
    rcases hR with hR | ⟨rfl, rfl, rfl⟩
    · exact h2 u g y hR hpu hg hy heu
    · omega
/-- all edges of a settled one, ferry by ferry -/
theorem q_edges {σ : Sg} (hw : wfS σ) {goal : Nat → Bool} {Z : Ss} {P : Nat → Bool} {pp : Nat → Nat} {R : Nat → Nat → Nat → Prop} {a f : Nat} (h : qI σ goal Z P (z_co Z a) pp R) (ha : P a = true) (hf : f < s_m σ) : ∀ {x : Nat}, x ≤ 2 ^ s_n σ → ∃ pp', qI σ goal (spX σ a f f (mi σ f) Z x) P (z_co (spX σ a f f (mi σ f) Z x) a) pp' (fun u g y => R u g y ∨ (u = a ∧ g = f ∧ y < x))
  | 0, _ => by
    obtain ⟨h1, h2, h3⟩ := h
    exact ⟨pp, h1, fun u g y hR => h2 u g y (hR.elim id (fun q => absurd q.2.2 (by omega))), h3⟩
  | x + 1, hx => by
    obtain ⟨pp1, g⟩ := q_edges hw h ha hf (x := x) (by omega)
    rw [spX]
    by_cases he : edge σ a f x = true
    · rw [if_pos he]
      obtain ⟨pp2, h1, h2, h3⟩ := q_edge hw g ha hf (by omega) he
      refine ⟨pp2, h1, fun u e y hR => h2 u e y ?_, h3⟩
      rcases hR with q | ⟨q1, q2, q3⟩
      · exact Or.inl (Or.inl q)
      · rcases (show y = x ∨ y < x by omega) with r | r
        · exact Or.inr ⟨q1, q2, r⟩
        · exact Or.inl (Or.inr ⟨q1, q2, r⟩)
    · rw [if_neg he]
      obtain ⟨h1, h2, h3⟩ := g
      refine ⟨pp1, h1, fun u e y hR hpu hg hy heu => ?_, h3⟩
      rcases hR with q | ⟨q1, q2, q3⟩
      · exact h2 u e y (Or.inl q) hpu hg hy heu
      · rcases (show y = x ∨ y < x by omega) with r | r
        · rw [q1, q2, r] at heu; exact absurd heu he
        · exact h2 u e y (Or.inr ⟨q1, q2, r⟩) hpu hg hy heu
theorem q_start {σ : Sg} (hw : wfS σ) (goal : Nat → Bool) {Z : Ss} (hco : ∀ v, v < 2048 → z_co Z v = 1048576) (h0 : z_tl Z 0 = 0 ∧ z_hd Z 0 = 0) (h1 : z_hd Z 1 = 2048 ∧ z_tl Z 1 = 2048) (h2 : z_hd Z 2 = 4096 ∧ z_tl Z 2 = 4096) : qI σ goal (rcF (st0 σ) 4294967295 0 0 Z) (fun _ => false) 0 (fun _ => 0) (fun _ _ _ => True) := by
  have hs := st0_lt hw
  rw [rcF, if_pos (by rw [hco _ hs, h0.1]; decide)]
  have hc1 : z_co (rcP (st0 σ) 4294967295 0 0 Z) (st0 σ) = 0 := updN_at _ _ _
  have hc2 : ∀ u, u ≠ st0 σ → z_co (rcP (st0 σ) 4294967295 0 0 Z) u = z_co Z u := fun u hu => updN_ne _ _ hu
  have ht0 : z_tl (rcP (st0 σ) 4294967295 0 0 Z) 0 = 1 := by
    show updN (z_tl Z) 0 (z_tl Z 0 + 1) 0 = 1
    rw [updN_at, h0.1]
  have ht1 : z_tl (rcP (st0 σ) 4294967295 0 0 Z) 1 = 2048 := by
    show updN (z_tl Z) 0 (z_tl Z 0 + 1) 1 = 2048
    rw [updN_ne _ _ (by decide)]; exact h1.2
  have ht2 : z_tl (rcP (st0 σ) 4294967295 0 0 Z) 2 = 4096 := by
    show updN (z_tl Z) 0 (z_tl Z 0 + 1) 2 = 4096
    rw [updN_ne _ _ (by decide)]; exact h2.2
  have hw0 : z_wa (rcP (st0 σ) 4294967295 0 0 Z) 0 = st0 σ := by
    show updN (z_wa Z) (z_tl Z 0) (st0 σ) 0 = _
    rw [h0.1, updN_at]
  have hlow : ∀ q j, q < 3 → q * 2048 ≤ j → j < z_tl (rcP (st0 σ) 4294967295 0 0 Z) q → q = 0 ∧ j = 0 := fun q j hq hj1 hj2 => by
    rcases (show q = 0 ∨ q = 1 ∨ q = 2 by omega) with rfl | rfl | rfl
    · rw [ht0] at hj2; exact ⟨rfl, by omega⟩
    · rw [ht1] at hj2; omega
    · rw [ht2] at hj2; omega
  refine ⟨fun v hv => ?_, fun u f x _ hu => (by cases hu), fun u hu => (by cases hu), fun v _ _ => Nat.zero_le _, Or.inr rfl, hc1, fun q hq => ?_, fun q j hq hj1 hj2 => ?_, fun q j k hq hj1 hjk hk => Nat.le_refl _, fun v hv _ hc => ?_, fun q j k hq hj1 hjk hk => ?_⟩
  · by_cases e : v = st0 σ
    · refine Or.inr ⟨by rw [e, hc1]; exact Nat.zero_le _, 0, e, by rw [e, hc1]⟩
    · rw [hc2 v e]; exact Or.inl (hco v hv)
  · rcases (show q = 0 ∨ q = 1 ∨ q = 2 by omega) with rfl | rfl | rfl
    · rw [ht0]; exact ⟨by omega, by show z_hd Z 0 ≤ 1; omega, by omega⟩
    · rw [ht1]; exact ⟨by show 1 * 2048 ≤ z_hd Z 1; omega, by show z_hd Z 1 ≤ _; omega, by omega⟩
    · rw [ht2]; exact ⟨by show 2 * 2048 ≤ z_hd Z 2; omega, by show z_hd Z 2 ≤ _; omega, by omega⟩
  · obtain ⟨rfl, rfl⟩ := hlow q j hq hj1 hj2
    rw [hw0, hc1]; exact ⟨hs, Nat.le_refl _, Nat.zero_le _⟩
  · by_cases e : v = st0 σ
    · exact ⟨0, 0, by omega, by show z_hd Z 0 ≤ 0; omega, by rw [ht0]; omega, by rw [hw0, e], by rw [e, hc1]⟩
    · rw [hc2 v e, hco v hv] at hc; omega
  · obtain ⟨rfl, rfl⟩ := hlow q k hq (by omega) hk
    omega
/-- edges of one that was settled before: nothing changes -/
theorem q_same {σ : Sg} {goal : Nat → Bool} {Z : Ss} {P : Nat → Bool} {cur : Nat} {pp : Nat → Nat} (h : qI σ goal Z P cur pp (fun _ _ _ => True)) {a f : Nat} (ha : P a = true) (hf : f < s_m σ) : ∀ {x : Nat}, x ≤ 2 ^ s_n σ → spX σ a f f (mi σ f) Z x = Z
  | 0, _ => rfl
  | x + 1, hx => by
    rw [spX, q_same h ha hf (x := x) (by omega)]
    by_cases he : edge σ a f x = true
    · rw [if_pos he, rcF, if_neg (fun q => absurd q.1 (Nat.not_lt.mpr (h.2.1 a f x trivial ha hf (by omega) he)))]
    · rw [if_neg he]
theorem q_mono {σ : Sg} {goal : Nat → Bool} {Z : Ss} {P : Nat → Bool} {cur : Nat} {pp : Nat → Nat} {R R' : Nat → Nat → Nat → Prop} (h : qI σ goal Z P cur pp R) (hR : ∀ u f x, f < s_m σ → x < 2 ^ s_n σ → R' u f x → R u f x) : qI σ goal Z P cur pp R' := ⟨h.1, fun u f x hr hp hf hx he => h.2.1 u f x (hR u f x hf hx hr) hp hf hx he, h.2.2⟩
