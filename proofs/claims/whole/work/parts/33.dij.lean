/-! the soonest: what it is, and what a search by settled ones keeps -/
def mi (σ : Sg) (f : Nat) : Nat := s_fe σ (5 * f + 4)
def pth (σ : Sg) : Nat → Nat → Nat → Prop
  | 0, s, c => s = st0 σ ∧ c = 0
  | k + 1, s, c => ∃ s' c' f x, pth σ k s' c' ∧ f < s_m σ ∧ x < 2 ^ s_n σ ∧ edge σ s' f x = true ∧ s = stp s' f x ∧ c = c' + mi σ f
def isSoon (σ : Sg) (goal : Nat → Bool) (r : Int32) : Prop := (∃ d, r = nI d ∧ d < 2 ^ 31 ∧ (∃ k s, pth σ k s d ∧ goal s = true) ∧ ∀ k s c, pth σ k s c → goal s = true → d ≤ c) ∨ (r = -1 ∧ ∀ k s c, pth σ k s c → goal s = false)
theorem isSoon_one {σ : Sg} {goal : Nat → Bool} {r r' : Int32} (h : isSoon σ goal r) (h' : isSoon σ goal r') : r = r' := by
  rcases h with ⟨d, rfl, -, ⟨k, s, hp, hg⟩, hmin⟩ | ⟨rfl, hno⟩
  · rcases h' with ⟨d', rfl, -, ⟨k', s', hp', hg'⟩, hmin'⟩ | ⟨rfl, hno'⟩
    · have h1 := hmin k' s' d' hp' hg'
      have h2 := hmin' k s d hp hg
      rw [show d = d' by omega]
    · rw [hno' k s d hp] at hg; cases hg
  · rcases h' with ⟨d', rfl, -, ⟨k', s', hp', hg'⟩, hmin'⟩ | ⟨rfl, hno'⟩
    · rw [hno k' s' d' hp'] at hg'; cases hg'
    · rfl
def a_soonI (σ : Sg) (set bk : Int32) (r : Int32) : Prop := if (isIx (2 ^ s_n σ) set && isIx 2 bk) = false then r = -2 else isSoon σ (goalN (tk set) (tk bk)) r
theorem a_soon_one {σ : Sg} {set bk r r' : Int32} (h : a_soonI σ set bk r) (h' : a_soonI σ set bk r') : r = r' := by
  unfold a_soonI at h h'
  split at h
  · rename_i c; rw [if_pos c] at h'; rw [h, h']
  · rename_i c; rw [if_neg c] at h'; exact isSoon_one h h'
/-- what is settled, and how far the others are as far as known -/
def dInv (σ : Sg) (goal : Nat → Bool) (it : Nat) (M : Nat → Nat) (D : Nat → Bool) : Prop :=
  (∀ v, M v = 1000000 ∨ (M v ≤ 9 * it ∧ v < 256 * 2 ^ s_m σ ∧ ∃ k, pth σ k v (M v))) ∧
  (∀ u f x, D u = true → f < s_m σ → x < 2 ^ s_n σ → edge σ u f x = true → M (stp u f x) ≤ M u + mi σ f) ∧
  (∀ u v, D u = true → D v = false → M u ≤ M v) ∧ (∀ u, D u = true → M u < 1000000 ∧ u < 2048 ∧ goal u = false) ∧ M (st0 σ) = 0 ∧ cntN D 2048 = it
theorem cntD_le (D : Nat → Bool) : cntN D 2048 ≤ 2048 := cntN_le D 2048
theorem stp_lt3 {σ : Sg} (hn : 2 ^ s_n σ ≤ 256) {s f x : Nat} (hs : s < 256 * 2 ^ s_m σ) (hf : f < s_m σ) (hx : x < 2 ^ s_n σ) : stp s f x < 256 * 2 ^ s_m σ := by
  have e : 256 * 2 ^ s_m σ = 2 ^ (8 + s_m σ) := by rw [Nat.pow_add]
  rw [e] at hs ⊢
  have h1 : s ^^^ x < 2 ^ (8 + s_m σ) := Nat.xor_lt_two_pow hs (by
    have : 2 ^ 8 ≤ 2 ^ (8 + s_m σ) := pw_le (by omega)
    omega)
  have h2 : 256 * 2 ^ f < 2 ^ (8 + s_m σ) := by
    have e2 : 256 * 2 ^ f = 2 ^ (8 + f) := by rw [Nat.pow_add]
    rw [e2]
    exact Nat.pow_lt_pow_right (by decide) (by omega)
  exact Nat.xor_lt_two_pow h1 h2
/-- every way ends in a settled one as near, or is as far as the nearest that is not settled -/
theorem d_cut {σ : Sg} {goal : Nat → Bool} {it : Nat} {M : Nat → Nat} {D : Nat → Bool} (h : dInv σ goal it M D) {t : Nat} (ht : ∀ v, D v = false → t ≤ M v) : ∀ {k v c : Nat}, pth σ k v c → (D v = true ∧ M v ≤ c) ∨ t ≤ c
  | 0, v, c, hp => by
    obtain ⟨rfl, rfl⟩ := hp
    have h0 := h.2.2.2.2.1
    cases hd : D (st0 σ) with
    | true => exact Or.inl ⟨rfl, by omega⟩
    | false => exact Or.inr (by have := ht _ hd; omega)
  | k + 1, v, c, hp => by
    obtain ⟨s', c', f, x, hp', hf, hx, he, rfl, rfl⟩ := hp
    rcases d_cut h ht hp' with ⟨hd, hm⟩ | q
    · have hr := h.2.1 s' f x hd hf hx he
      cases hv : D (stp s' f x) with
      | true => exact Or.inl ⟨rfl, by omega⟩
      | false => exact Or.inr (by have := ht _ hv; omega)
    · exact Or.inr (by omega)
def selP (M : Nat → Nat) (D : Nat → Bool) (k : Nat) : Bool := !D k && decide (M k < 1000000)
def sel (σ : Sg) (M : Nat → Nat) (D : Nat → Bool) : Option Nat := lwt (selP M D) M (256 * 2 ^ s_m σ)
theorem sel_some {σ : Sg} {goal : Nat → Bool} {it a : Nat} {M : Nat → Nat} {D : Nat → Bool} (h : dInv σ goal it M D) (hs : sel σ M D = some a) : D a = false ∧ M a < 1000000 ∧ a < 256 * 2 ^ s_m σ ∧ ∀ v, D v = false → M a ≤ M v := by
  have hc := lwt_char hs
  have h1 := hc.1
  rw [selP, Bool.and_eq_true, Bool.not_eq_true', decide_eq_true_iff] at h1
  refine ⟨h1.1, h1.2, lwt_lt hs, fun v hv => ?_⟩
  rcases h.1 v with q | ⟨q1, q2, -⟩
  · omega
  · by_cases hf : M v < 1000000
    · have := hc.2 v q2 (by rw [selP, hv, decide_eq_true hf]; rfl)
      unfold lexLe at this
      omega
    · omega
theorem sel_none {σ : Sg} {goal : Nat → Bool} {it : Nat} {M : Nat → Nat} {D : Nat → Bool} (h : dInv σ goal it M D) (hs : sel σ M D = none) : ∀ v, D v = false → 1000000 ≤ M v := by
  intro v hv
  rcases h.1 v with q | ⟨q1, q2, -⟩
  · omega
  · have := lwt_char.lwt_no hs v q2
    rw [selP, hv] at this
    simp only [Bool.not_false, Bool.true_and, decide_eq_false_iff_not] at this
    omega
theorem mi_le {σ : Sg} (hw : wfS σ) {f : Nat} (hf : f < s_m σ) : mi σ f ≤ 9 := (hw.2.2.2.1 f (by have := hw.2.1; omega)).2.2.2.2
theorem pth_no {σ : Sg} (hw : wfS σ) {goal : Nat → Bool} {it : Nat} {M : Nat → Nat} {D : Nat → Bool} (h : dInv σ goal it M D) (hs : sel σ M D = none) : ∀ k v c, pth σ k v c → goal v = false := by
  have hall := sel_none h hs
  have hit := h.2.2.2.2.2
  have hcd := cntD_le D
  have key : ∀ {k v c : Nat}, pth σ k v c → D v = true := by
    intro k
    induction k with
    | zero =>
      rintro v c ⟨rfl, rfl⟩
      cases hd : D (st0 σ) with
      | true => rfl
      | false => have h1 := hall _ hd; rw [h.2.2.2.2.1] at h1; exact absurd h1 (by decide)
    | succ k ih =>
      rintro v c ⟨s', c', f, x, hp', hf, hx, he, rfl, rfl⟩
      have hd := ih hp'
      cases hv : D (stp s' f x) with
      | true => rfl
      | false =>
        have h1 := hall _ hv
        have h2 := h.2.1 s' f x hd hf hx he
        have h3 := (h.2.2.2.1 s' hd).1
        have h4 := mi_le hw hf
        rcases h.1 s' with r | ⟨r, -, -⟩ <;> omega
  intro k v c hp
  exact (h.2.2.2.1 v (key hp)).2.2
/-- the edges of a, one by one -/
def rlE (σ : Sg) (D : Nat → Bool) (a f x : Nat) (M : Nat → Nat) : Nat → Nat := if D (stp a f x) = false ∧ M a + mi σ f < M (stp a f x) ∧ edge σ a f x = true then updN M (stp a f x) (M a + mi σ f) else M
def rlX (σ : Sg) (D : Nat → Bool) (a f : Nat) (M : Nat → Nat) : Nat → Nat → Nat
  | 0 => M
  | x + 1 => rlE σ D a f x (rlX σ D a f M x)
def rlF (σ : Sg) (D : Nat → Bool) (a : Nat) (M : Nat → Nat) : Nat → Nat → Nat
  | 0 => M
  | f + 1 => rlX σ D a f (rlF σ D a M f) (2 ^ s_n σ)
/-- what the fold has done so far: M' from M; done: which edges have been looked at -/
def rlOk (σ : Sg) (D : Nat → Bool) (a : Nat) (M M' : Nat → Nat) (done : Nat → Nat → Prop) : Prop :=
  M' a = M a ∧ (∀ v, M' v ≤ M v) ∧ (∀ v, M' v = M v ∨ (D v = false ∧ ∃ f x, f < s_m σ ∧ x < 2 ^ s_n σ ∧ edge σ a f x = true ∧ v = stp a f x ∧ M' v = M a + mi σ f)) ∧ ∀ f x, done f x → edge σ a f x = true → D (stp a f x) = false → M' (stp a f x) ≤ M a + mi σ f
theorem rlE_ok {σ : Sg} {D : Nat → Bool} {a f x : Nat} {M M' : Nat → Nat} {done : Nat → Nat → Prop} (h : rlOk σ D a M M' done) (hDa : D a = true) (hf : f < s_m σ) (hx : x < 2 ^ s_n σ) : rlOk σ D a M (rlE σ D a f x M') (fun f' x' => done f' x' ∨ (f' = f ∧ x' = x)) := by
  obtain ⟨h1, h2, h3, h4⟩ := h
  unfold rlE
  by_cases c : D (stp a f x) = false ∧ M' a + mi σ f < M' (stp a f x) ∧ edge σ a f x = true
  · rw [if_pos c]
    have ha : a ≠ stp a f x := fun e => by rw [← e, hDa] at c; cases c.1
    rw [h1] at c
    refine ⟨by rw [updN, if_neg ha]; exact h1, fun v => ?_, fun v => ?_, fun f' x' hd he hD => ?_⟩
    · by_cases e : v = stp a f x
      · rw [updN, if_pos e, h1, e]; have := h2 (stp a f x); omega
      · rw [updN, if_neg e]; exact h2 v
    · by_cases e : v = stp a f x
      · refine Or.inr ⟨by rw [e]; exact c.1, f, x, hf, hx, c.2.2, e, by rw [updN, if_pos e, h1]⟩
      · rw [updN, if_neg e]; exact h3 v
    · by_cases e : stp a f' x' = stp a f x
      · rw [updN, if_pos e, h1]
        rcases hd with hd | ⟨rfl, rfl⟩
        · have := h4 f' x' hd he hD; rw [e] at this; omega
        · exact Nat.le_refl _
      · rw [updN, if_neg e]
        rcases hd with hd | ⟨rfl, rfl⟩
        · exact h4 f' x' hd he hD
        · exact absurd rfl e
  · rw [if_neg c]
    refine ⟨h1, h2, h3, fun f' x' hd he hD => ?_⟩
    rcases hd with hd | ⟨rfl, rfl⟩
    · exact h4 f' x' hd he hD
    · rw [h1] at c
      refine Nat.not_lt.mp (fun q => c ⟨hD, q, he⟩)
theorem rlOk_mono {σ : Sg} {D : Nat → Bool} {a : Nat} {M M' : Nat → Nat} {d1 d2 : Nat → Nat → Prop} (h : rlOk σ D a M M' d1) (hd : ∀ f x, d2 f x → d1 f x) : rlOk σ D a M M' d2 := ⟨h.1, h.2.1, h.2.2.1, fun f x q => h.2.2.2 f x (hd f x q)⟩
theorem rlX_ok {σ : Sg} {D : Nat → Bool} {a f : Nat} {M M' : Nat → Nat} {done : Nat → Nat → Prop} (h : rlOk σ D a M M' done) (hDa : D a = true) (hf : f < s_m σ) : ∀ {x : Nat}, x ≤ 2 ^ s_n σ → rlOk σ D a M (rlX σ D a f M' x) (fun f' x' => done f' x' ∨ (f' = f ∧ x' < x))
  | 0, _ => rlOk_mono h (fun f' x' q => q.elim id (fun r => absurd r.2 (by omega)))
  | x + 1, hx => rlOk_mono (rlE_ok (rlX_ok h hDa hf (x := x) (by omega)) hDa hf (by omega)) (fun f' x' q => by
    rcases q with q | ⟨q1, q2⟩
    · exact Or.inl (Or.inl q)
    · rcases (show x' = x ∨ x' < x by omega) with r | r
      · exact Or.inr ⟨q1, r⟩
      · exact Or.inl (Or.inr ⟨q1, r⟩))
theorem rlF_ok {σ : Sg} {D : Nat → Bool} {a : Nat} {M : Nat → Nat} (hDa : D a = true) : ∀ {f : Nat}, f ≤ s_m σ → rlOk σ D a M (rlF σ D a M f) (fun f' x' => f' < f ∧ x' < 2 ^ s_n σ)
  | 0, _ => ⟨rfl, fun _ => Nat.le_refl _, fun _ => Or.inl rfl, fun f' x' q => absurd q.1 (by omega)⟩
  | f + 1, hf => rlOk_mono (rlX_ok (rlF_ok hDa (f := f) (by omega)) hDa (by omega) (Nat.le_refl _)) (fun f' x' q => by
    rcases (show f' = f ∨ f' < f by omega) with r | r
    · exact Or.inr ⟨r, q.2⟩
    · exact Or.inl ⟨r, q.2⟩)
theorem cnt_upd {D : Nat → Bool} {a : Nat} (hD : D a = false) : ∀ {n : Nat}, a < n → cntN (updB D a true) n = cntN D n + 1
  | 0, h => absurd h (by omega)
  | n + 1, h => by
    have e1 : cntN (updB D a true) (n + 1) = cntN (updB D a true) n + (updB D a true n).toNat := rfl
    have e2 : cntN D (n + 1) = cntN D n + (D n).toNat := rfl
    rcases (show a = n ∨ a < n by omega) with rfl | q
    · have : cntN (updB D a true) a = cntN D a := sumN_cong (fun k hk => by rw [updB, if_neg (by omega)])
      rw [e1, e2, this, updB, if_pos rfl, hD]; rfl
    · rw [e1, e2, cnt_upd hD q, updB, if_neg (by omega)]; omega
theorem d_step {σ : Sg} (hw : wfS σ) {goal : Nat → Bool} {it a : Nat} {M : Nat → Nat} {D : Nat → Bool} (h : dInv σ goal it M D) (hs : sel σ M D = some a) (hg : goal a = false) : dInv σ goal (it + 1) (rlF σ (updB D a true) a M (s_m σ)) (updB D a true) := by
  obtain ⟨hDa, hMa, halt, hmin⟩ := sel_some h hs
  have h8 := pw_8 hw.1
  have hm3 : 2 ^ s_m σ ≤ 2 ^ 3 := pw_le hw.2.1
  have hDa' : updB D a true a = true := by rw [updB, if_pos rfl]
  have hD' : ∀ v, updB D a true v = true → v = a ∨ D v = true := fun v hv => by
    by_cases e : v = a
    · exact Or.inl e
    · rw [updB, if_neg e] at hv; exact Or.inr hv
  have hF' : ∀ v, updB D a true v = false → D v = false := fun v hv => by
    by_cases e : v = a
    · rw [e]; exact hDa
    · rw [updB, if_neg e] at hv; exact hv
  obtain ⟨r1, r2, r3, r4⟩ := rlF_ok (σ := σ) (D := updB D a true) (M := M) hDa' (f := s_m σ) (Nat.le_refl _)
  have hcd := cntD_le D
  have hit := h.2.2.2.2.2
  have hMa9 : M a ≤ 9 * it ∧ ∃ k, pth σ k a (M a) := by
    rcases h.1 a with q | ⟨q, -, k⟩
    · omega
    · exact ⟨q, k⟩
  -- settled ones stay
  have hstay : ∀ u, updB D a true u = true → rlF σ (updB D a true) a M (s_m σ) u = M u := fun u hu => by
    rcases r3 u with q | ⟨q, -⟩
    · exact q
    · rw [hu] at q; cases q
  refine ⟨fun v => ?_, fun u f x hu hf hx he => ?_, fun u v hu hv => ?_, fun u hu => ?_, ?_, ?_⟩
  · rcases r3 v with q | ⟨-, f, x, hf, hx, he, rfl, q⟩
    · rw [q]
      rcases h.1 v with r | ⟨r1', r2', r3'⟩
      · exact Or.inl r
      · exact Or.inr ⟨by omega, r2', r3'⟩
    · rw [q]
      obtain ⟨k, hk⟩ := hMa9.2
      have := mi_le hw hf
      exact Or.inr ⟨by omega, stp_lt3 h8 halt hf hx, k + 1, a, M a, f, x, hk, hf, hx, he, rfl, rfl⟩
  · rw [hstay u hu]
    rcases hD' u hu with rfl | hu0
    · cases hv : updB D u true (stp u f x) with
      | false => exact r4 f x ⟨hf, hx⟩ he hv
      | true =>
        rw [hstay _ hv]
        rcases hD' _ hv with e | e
        · rw [e]; omega
        · have := h.2.2.1 _ u e hDa; omega
    · have h1 := h.2.1 u f x hu0 hf hx he
      have h2 := r2 (stp u f x)
      omega
  · rw [hstay u hu]
    have hu1 : M u ≤ M a := by
      rcases hD' u hu with rfl | hu0
      · exact Nat.le_refl _
      · exact h.2.2.1 u a hu0 hDa
    rcases r3 v with q | ⟨-, f, x, -, -, -, -, q⟩
    · rw [q]; have := hmin v (hF' v hv); omega
    · rw [q]; omega
  · rw [hstay u hu]
    rcases hD' u hu with rfl | hu0
    · exact ⟨hMa, by omega, hg⟩
    · exact h.2.2.2.1 u hu0
  · rcases r3 (st0 σ) with q | ⟨hq, f, x, -, -, -, -, q⟩
    · rw [q]; exact h.2.2.2.2.1
    · have := r2 (st0 σ); have := h.2.2.2.2.1; omega
  · rw [cnt_upd hDa (by omega), hit]
theorem d_found {σ : Sg} {goal : Nat → Bool} {it a : Nat} {M : Nat → Nat} {D : Nat → Bool} (h : dInv σ goal it M D) (hs : sel σ M D = some a) (hg : goal a = true) : isSoon σ goal (nI (M a)) := by
  obtain ⟨hDa, hMa, -, hmin⟩ := sel_some h hs
  have hp : ∃ k, pth σ k a (M a) := by
    rcases h.1 a with q | ⟨-, -, k⟩
    · omega
    · exact k
  obtain ⟨k, hk⟩ := hp
  refine Or.inl ⟨M a, rfl, by omega, ⟨k, a, hk, hg⟩, fun k' s c hp' hgs => ?_⟩
  rcases d_cut h hmin hp' with ⟨hd, -⟩ | q
  · rw [(h.2.2.2.1 s hd).2.2] at hgs; cases hgs
  · exact q
theorem d_start {σ : Sg} (hw : wfS σ) (goal : Nat → Bool) : dInv σ goal 0 (updN (fun _ => 1000000) (st0 σ) 0) (fun _ => false) := by
  have hs : st0 σ < 256 * 2 ^ s_m σ := by
    have h1 := ov_lt hw
    have h2 : s_mo σ < 2 ^ s_m σ := hw.2.2.2.2.2.2.2.1
    unfold st0; omega
  refine ⟨fun v => ?_, fun u f x hu => (by cases hu), fun u v hu => (by cases hu), fun u hu => (by cases hu), (by rw [updN, if_pos rfl]), ?_⟩
  · by_cases e : v = st0 σ
    · refine Or.inr ⟨by rw [updN, if_pos e]; omega, by rw [e]; exact hs, 0, e, by rw [updN, if_pos e]⟩
    · exact Or.inl (by rw [updN, if_neg e])
  · have h0 : cntN (fun _ => false) 2048 ≤ 2048 * 0 := sumN_le (fun _ _ => Nat.le_refl 0)
    omega
