theorem fb_holes : ∀ (m n : Nat) (f : Nat → Nat), (∀ i, i < n → f i < m) → (∀ i j, i < j → j < n → f i ≠ f j) → n ≤ m := by
  intro m
  induction m with
  | zero =>
    intro n f h1 _
    rcases Nat.eq_zero_or_pos n with h | h
    · omega
    · exact absurd (h1 0 h) (Nat.not_lt_zero _)
  | succ m ih =>
    intro n f h1 h2
    by_cases hx : ∃ i, i < n ∧ f i = m
    · obtain ⟨a, ha, hfa⟩ := hx
      have hg := ih (n - 1) (fun i => if i < a then f i else f (i + 1)) (by
        intro i hi
        by_cases q : i < a
        · simp only [if_pos q]
          have b1 := h1 i (by omega)
          have b2 := h2 i a q ha
          omega
        · simp only [if_neg q]
          have b1 := h1 (i + 1) (by omega)
          have b2 := h2 a (i + 1) (by omega) (by omega)
          omega) (by
        intro i j hij hj
        by_cases q : i < a
        · by_cases r : j < a
          · simp only [if_pos q, if_pos r]
            exact h2 i j hij (by omega)
          · simp only [if_pos q, if_neg r]
            exact h2 i (j + 1) (by omega) (by omega)
        · have r : ¬ j < a := by omega
          simp only [if_neg q, if_neg r]
          exact h2 (i + 1) (j + 1) (by omega) (by omega))
      omega
    · have hg := ih n f (fun i hi => by
        have b1 := h1 i hi
        have b2 : f i ≠ m := fun e => hx ⟨i, hi, e⟩
        omega) h2
      omega

def oF (d : Nat → Option Nat) : Nat → Int32 := fun v => oI (d v)
theorem oF_upd (d : Nat → Option Nat) (v k : Nat) : upd (oF d) v (nI k) = oF (updO d v (some k)) := by
  funext j
  unfold upd oF updO
  by_cases h : j = v
  · rw [if_pos h, if_pos h]; rfl
  · rw [if_neg h, if_neg h]
/-- breadth first: how far (none: not seen), from where, by which crossing, the row of those seen, how many -/
abbrev Bf : Type := (Nat → Option Nat) × (Nat → Nat) × (Nat → Nat) × (Nat → Nat) × Nat
def b_d (B : Bf) : Nat → Option Nat := B.1
def b_p (B : Bf) : Nat → Nat := B.2.1
def b_w (B : Bf) : Nat → Nat := B.2.2.1
def b_q (B : Bf) : Nat → Nat := B.2.2.2.1
def b_l (B : Bf) : Nat := B.2.2.2.2
def stp (s f x : Nat) : Nat := s ^^^ x ^^^ 256 * 2 ^ f
def edge (σ : Sg) (s f x : Nat) : Bool := isR σ f x (s &&& 255) (s / 256) (s_of σ)
def push (B : Bf) (s da f x : Nat) : Bf := (updO (b_d B) (stp s f x) (some (da + 1)), updN (b_p B) (stp s f x) s, updN (b_w B) (stp s f x) (256 * f + x), updN (b_q B) (b_l B) (stp s f x), b_l B + 1)
def tryE (σ : Sg) (s da f x : Nat) (B : Bf) : Bf := if b_d B (stp s f x) = none ∧ edge σ s f x = true then push B s da f x else B
def expX (σ : Sg) (s da f : Nat) (B : Bf) : Nat → Bf
  | 0 => B
  | x + 1 => tryE σ s da f x (expX σ s da f B x)
def expF (σ : Sg) (s da : Nat) (B : Bf) : Nat → Bf
  | 0 => B
  | f + 1 => expX σ s da f (expF σ s da B f) (2 ^ s_n σ)
def bfs (σ : Sg) (goal : Nat → Bool) : Nat → Nat → Bf → Option Nat × Bf
  | 0, _, B => (none, B)
  | k + 1, i, B => if i < b_l B then (if goal (b_q B i) then (some (b_q B i), B) else bfs σ goal k (i + 1) (expF σ (b_q B i) ((b_d B (b_q B i)).getD 0) B (s_m σ))) else (none, B)
theorem stp_lt {s f x : Nat} (hs : s < 2048) (hf : f < 3) (hx : x < 256) : stp s f x < 2048 := by
  have h1 : s ^^^ x < 2 ^ 11 := Nat.xor_lt_two_pow hs (by omega)
  have h2 : 256 * 2 ^ f < 2 ^ 11 := by
    have : 2 ^ f ≤ 2 ^ 2 := pw_le (by omega)
    omega
  exact Nat.xor_lt_two_pow h1 h2
theorem stp_stp (s f x : Nat) : stp (stp s f x) f x = s := by
  unfold stp
  apply Nat.eq_of_testBit_eq
  intro i
  rw [Nat.testBit_xor, Nat.testBit_xor, Nat.testBit_xor, Nat.testBit_xor]
  cases s.testBit i <;> cases x.testBit i <;> cases (256 * 2 ^ f).testBit i <;> rfl
theorem edge_0 (σ : Sg) (s f : Nat) : edge σ s f 0 = false := by
  have : hasP σ 0 = false := by
    cases h : hasP σ 0 with
    | false => rfl
    | true =>
      obtain ⟨t, -, ht⟩ := any_ex.mp h
      rw [Nat.zero_testBit] at ht
      cases ht
  rw [edge, isR, board, this]; rfl
def bBack (B : Bf) : Prop := ∀ v k, b_d B v = some (k + 1) → b_p B v < 2048 ∧ b_d B (b_p B v) = some k ∧ ∃ f x, f < 3 ∧ x < 256 ∧ b_w B v = 256 * f + x ∧ b_p B v = stp v f x
def bInv (B : Bf) : Prop := b_l B ≤ 2048 ∧ (∀ j, j < b_l B → b_q B j < 2048 ∧ ∃ k, b_d B (b_q B j) = some k ∧ k ≤ j) ∧ (∀ j k, j < k → k < b_l B → b_q B j ≠ b_q B k) ∧ (∀ v k, b_d B v = some k → ∃ j, j < b_l B ∧ b_q B j = v) ∧ bBack B
theorem push_room {B : Bf} (h : bInv B) {v : Nat} (hv : v < 2048) (hn : b_d B v = none) : b_l B < 2048 := by
  have key := fb_holes 2048 (b_l B + 1) (fun j => if j < b_l B then b_q B j else v) (fun j hj => by
    by_cases q : j < b_l B
    · simp only [if_pos q]; exact (h.2.1 j q).1
    · simp only [if_neg q]; exact hv) (fun i j hij hj => by
    by_cases q : j < b_l B
    · simp only [if_pos q, if_pos (show i < b_l B by omega)]; exact h.2.2.1 i j hij q
    · simp only [if_neg q, if_pos (show i < b_l B by omega)]
      intro e
      obtain ⟨-, k, hk, -⟩ := h.2.1 i (by omega)
      rw [e, hn] at hk
      cases hk)
  omega
theorem push_inv {B : Bf} (h : bInv B) {s da f x i : Nat} (hs : s < 2048) (hd : b_d B s = some da) (hda : da ≤ i) (hi : i < b_l B) (hf : f < 3) (hx : x < 256) (hn : b_d B (stp s f x) = none) : bInv (push B s da f x) := by
  have hv := stp_lt hs hf hx
  have hr := push_room h hv hn
  have hsv : s ≠ stp s f x := fun e => by rw [← e, hd] at hn; cases hn
  have hdo : ∀ u, u ≠ stp s f x → b_d (push B s da f x) u = b_d B u := fun u hu => by show updO _ _ _ u = _; rw [updO, if_neg hu]
  have hqo : ∀ j, j < b_l B → b_q (push B s da f x) j = b_q B j := fun j hj => by show updN _ _ _ j = _; rw [updN, if_neg (by omega)]
  have hqn : b_q (push B s da f x) (b_l B) = stp s f x := by show updN _ _ _ _ = _; rw [updN, if_pos rfl]
  have hdn : b_d (push B s da f x) (stp s f x) = some (da + 1) := by show updO _ _ _ _ = _; rw [updO, if_pos rfl]
  have hne : ∀ j, j < b_l B → b_q B j ≠ stp s f x := fun j hj e => by
    obtain ⟨-, k, hk, -⟩ := h.2.1 j hj
    rw [e, hn] at hk
    cases hk
  refine ⟨?_, ?_, ?_, ?_, ?_⟩
  · show b_l B + 1 ≤ 2048; omega
  · intro j hj
    have hj : j < b_l B + 1 := hj
    rcases (show j = b_l B ∨ j < b_l B by omega) with rfl | q
    · rw [hqn]; exact ⟨hv, da + 1, hdn, by omega⟩
    · rw [hqo j q, hdo _ (hne j q)]; exact h.2.1 j q
  · intro j k hjk hk
    have hk : k < b_l B + 1 := hk
    rcases (show k = b_l B ∨ k < b_l B by omega) with rfl | q
    · rw [hqn, hqo j (by omega)]; exact hne j (by omega)
    · rw [hqo j (by omega), hqo k q]; exact h.2.2.1 j k hjk q
  · intro v k hk
    by_cases e : v = stp s f x
    · exact ⟨b_l B, Nat.lt_succ_self _, by rw [hqn, e]⟩
    · rw [hdo v e] at hk
      obtain ⟨j, hj, hq⟩ := h.2.2.2.1 v k hk
      exact ⟨j, Nat.lt_succ_of_lt hj, by rw [hqo j hj, hq]⟩
  · intro v k hk
    by_cases e : v = stp s f x
    · subst e
      rw [hdn] at hk
      have hk2 : da = k := by have := Option.some.inj hk; omega
      have hp : b_p (push B s da f x) (stp s f x) = s := by show updN _ _ _ _ = _; rw [updN, if_pos rfl]
      have hww : b_w (push B s da f x) (stp s f x) = 256 * f + x := by show updN _ _ _ _ = _; rw [updN, if_pos rfl]
      rw [hp, hww, hdo s hsv, ← hk2]
      exact ⟨hs, hd, f, x, hf, hx, rfl, (stp_stp s f x).symm⟩
    · rw [hdo v e] at hk
      obtain ⟨h1, h2, f', x', h3, h4, h5, h6⟩ := h.2.2.2.2 v k hk
      have hp : b_p (push B s da f x) v = b_p B v := by show updN _ _ _ _ = _; rw [updN, if_neg e]
      have hww : b_w (push B s da f x) v = b_w B v := by show updN _ _ _ _ = _; rw [updN, if_neg e]
      rw [hp, hww]
      refine ⟨h1, ?_, f', x', h3, h4, h5, h6⟩
      by_cases e2 : b_p B v = stp s f x
      · rw [e2, hn] at h2; cases h2
      · rw [hdo _ e2]; exact h2
theorem tryE_inv {σ : Sg} {B : Bf} (h : bInv B) {s da f x i : Nat} (hs : s < 2048) (hd : b_d B s = some da) (hda : da ≤ i) (hi : i < b_l B) (hf : f < 3) (hx : x < 256) : bInv (tryE σ s da f x B) ∧ b_d (tryE σ s da f x B) s = some da ∧ b_l B ≤ b_l (tryE σ s da f x B) ∧ ∀ j, j < b_l B → b_q (tryE σ s da f x B) j = b_q B j := by
  unfold tryE
  by_cases c : b_d B (stp s f x) = none ∧ edge σ s f x = true
  · rw [if_pos c]
    refine ⟨push_inv h hs hd hda hi hf hx c.1, ?_, Nat.le_succ _, fun j hj => ?_⟩
    · show updO _ _ _ s = _
      rw [updO, if_neg (fun e => by rw [← e, hd] at c; cases c.1)]; exact hd
    · show updN _ _ _ j = _
      rw [updN, if_neg (by omega)]
  · rw [if_neg c]; exact ⟨h, hd, Nat.le_refl _, fun _ _ => rfl⟩
theorem expX_inv {σ : Sg} {B : Bf} (h : bInv B) {s da f i : Nat} (hs : s < 2048) (hd : b_d B s = some da) (hda : da ≤ i) (hi : i < b_l B) (hf : f < 3) : ∀ {x : Nat}, x ≤ 256 → bInv (expX σ s da f B x) ∧ b_d (expX σ s da f B x) s = some da ∧ b_l B ≤ b_l (expX σ s da f B x) ∧ ∀ j, j < b_l B → b_q (expX σ s da f B x) j = b_q B j
  | 0, _ => ⟨h, hd, Nat.le_refl _, fun _ _ => rfl⟩
  | x + 1, hx => by
    obtain ⟨h1, h2, h3, h4⟩ := expX_inv h hs hd hda hi hf (x := x) (by omega)
    obtain ⟨g1, g2, g3, g4⟩ := tryE_inv (σ := σ) h1 hs h2 hda (by omega) hf (x := x) (by omega)
    exact ⟨g1, g2, Nat.le_trans h3 g3, fun j hj => (g4 j (by omega)).trans (h4 j hj)⟩
theorem expF_inv {σ : Sg} {B : Bf} (h : bInv B) {s da i : Nat} (hs : s < 2048) (hd : b_d B s = some da) (hda : da ≤ i) (hi : i < b_l B) (hn : 2 ^ s_n σ ≤ 256) : ∀ {f : Nat}, f ≤ 3 → bInv (expF σ s da B f) ∧ b_d (expF σ s da B f) s = some da ∧ b_l B ≤ b_l (expF σ s da B f) ∧ ∀ j, j < b_l B → b_q (expF σ s da B f) j = b_q B j
  | 0, _ => ⟨h, hd, Nat.le_refl _, fun _ _ => rfl⟩
  | f + 1, hf => by
    obtain ⟨h1, h2, h3, h4⟩ := expF_inv h hs hd hda hi hn (f := f) (by omega)
    obtain ⟨g1, g2, g3, g4⟩ := expX_inv (σ := σ) h1 hs h2 hda (by omega) (f := f) (by omega) hn
    exact ⟨g1, g2, Nat.le_trans h3 g3, fun j hj => (g4 j (by omega)).trans (h4 j hj)⟩
/-- the reference's rows say what B says, where it says something -/
def raM (B : Bf) (ah bw li : Nat → Int32) : Prop := (∀ v k, b_d B v = some (k + 1) → ah v = nI (b_p B v) ∧ bw v = nI (b_w B v)) ∧ ∀ j, j < b_l B → li j = nI (b_q B j)
theorem raM_push {B : Bf} {ah bw li : Nat → Int32} (h : raM B ah bw li) {s da f x : Nat} : raM (push B s da f x) (upd ah (stp s f x) (nI s)) (upd bw (stp s f x) (nI (256 * f + x))) (upd li (b_l B) (nI (stp s f x))) := by
  refine ⟨fun v k hk => ?_, fun j hj => ?_⟩
  · have hk : updO (b_d B) (stp s f x) (some (da + 1)) v = some (k + 1) := hk
    show upd _ _ _ v = nI (updN _ _ _ v) ∧ upd _ _ _ v = nI (updN _ _ _ v)
    unfold upd updN
    by_cases e : v = stp s f x
    · rw [if_pos e, if_pos e, if_pos e, if_pos e]; exact ⟨rfl, rfl⟩
    · rw [if_neg e, if_neg e, if_neg e, if_neg e]
      rw [updO, if_neg e] at hk
      exact h.1 v k hk
  · have hj : j < b_l B + 1 := hj
    show upd _ _ _ j = nI (updN _ _ _ j)
    unfold upd updN
    by_cases e : j = b_l B
    · rw [if_pos e, if_pos e]
    · rw [if_neg e, if_neg e]; exact h.2 j (by omega)
def B0 (s : Nat) : Bf := (updO (fun _ => none) s (some 0), (fun _ => 0), (fun _ => 0), (fun _ => s), 1)
theorem B0_inv {s : Nat} (hs : s < 2048) : bInv (B0 s) := by
  have hd : ∀ v, b_d (B0 s) v = if v = s then some 0 else none := fun v => rfl
  refine ⟨by show 1 ≤ 2048; decide, fun j hj => ?_, fun j k h1 h2 => ?_, fun v k hk => ?_, fun v k hk => ?_⟩
  · have hj : j < 1 := hj
    refine ⟨hs, 0, ?_, Nat.zero_le _⟩
    rw [hd]; exact if_pos rfl
  · have h2 : k < 1 := h2
    omega
  · rw [hd] at hk
    by_cases e : v = s
    · exact ⟨0, by show 0 < 1; decide, e.symm⟩
    · rw [if_neg e] at hk; cases hk
  · rw [hd] at hk
    by_cases e : v = s
    · rw [if_pos e] at hk; cases hk
    · rw [if_neg e] at hk; cases hk
def st0 (σ : Sg) : Nat := 256 * s_mo σ + s_ov σ
def goalN (set bk s : Nat) : Bool := onB (decide (bk = 1)) set (s &&& 255)
def fewB (σ : Sg) (set bk : Nat) : Option Nat × Bf := bfs σ (goalN set bk) 2049 0 (B0 (st0 σ))
def bck (p : Nat → Nat) : Nat → Nat → Nat
  | 0, v => v
  | k + 1, v => bck p k (p v)
def v_few (g : Option Nat × Bf) (i : Int32) : Int32 := match g.1 with
  | none => -1
  | some v => if i = -1 then nI ((b_d g.2 v).getD 0) else if nI ((b_d g.2 v).getD 0) ≤ i then -1 else nI (b_w g.2 (bck (b_p g.2) ((b_d g.2 v).getD 0 - 1 - tk i) v))
def a_fewest (σ : Sg) (set bk i : Int32) : Int32 := if (isIx (2 ^ s_n σ) set && isIx 2 bk) = false then -2 else if i < -1 then -3 else v_few (fewB σ (tk set) (tk bk)) i
