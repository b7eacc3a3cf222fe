/-! tokens -/
def rn (tx : Nat → Nat) (ln : Nat) (q : Nat → Bool) : Nat → Nat → Nat
  | 0, p => p
  | k + 1, p => if p < ln ∧ q (tx p) = true then rn tx ln q k (p + 1) else p
def qS (c : Nat) : Bool := decide (c = 32)
def qL (c : Nat) : Bool := decide (97 ≤ c ∧ c ≤ 122)
def qD (c : Nat) : Bool := decide (48 ≤ c ∧ c ≤ 57)
theorem rn_ge {tx : Nat → Nat} {ln : Nat} {q : Nat → Bool} : ∀ {k p : Nat}, p ≤ rn tx ln q k p
  | 0, p => Nat.le_refl p
  | k + 1, p => by
    rw [rn]
    split
    · exact Nat.le_trans (Nat.le_succ p) rn_ge
    · exact Nat.le_refl p
theorem rn_le {tx : Nat → Nat} {ln : Nat} {q : Nat → Bool} : ∀ {k p : Nat}, p ≤ ln → rn tx ln q k p ≤ ln
  | 0, p, h => h
  | k + 1, p, h => by
    rw [rn]
    split
    · exact rn_le (by omega)
    · exact h
theorem rn_all {tx : Nat → Nat} {ln : Nat} {q : Nat → Bool} : ∀ {k p : Nat}, ∀ j, p ≤ j → j < rn tx ln q k p → q (tx j) = true
  | 0, p, j, h1, h2 => absurd h2 (by rw [rn]; omega)
  | k + 1, p, j, h1, h2 => by
    rw [rn] at h2
    split at h2
    · rename_i c
      rcases (show j = p ∨ p + 1 ≤ j by omega) with rfl | r
      · exact c.2
      · exact rn_all j r h2
    · omega
def tB (σ : Sg) (p : Nat) : Nat := rn (s_tx σ) (s_ln σ) qS 201 p
def tLe (σ : Sg) (b : Nat) : Nat := rn (s_tx σ) (s_ln σ) qL 201 b
def tDe (σ : Sg) (b : Nat) : Nat := rn (s_tx σ) (s_ln σ) qD 201 b
/-- 0 letters, 1 digits, 2 another sign, 3 the end -/
def tK (σ : Sg) (p : Nat) : Nat := if tB σ p = s_ln σ then 3 else if qL (s_tx σ (tB σ p)) then 0 else if qD (s_tx σ (tB σ p)) then 1 else 2
def tE (σ : Sg) (p : Nat) : Nat := if tB σ p = s_ln σ then tB σ p else if qL (s_tx σ (tB σ p)) then tLe σ (tB σ p) else if qD (s_tx σ (tB σ p)) then tDe σ (tB σ p) else tB σ p + 1
def cdN (tx : Nat → Nat) (b : Nat) : Nat → Nat
  | 0 => 0
  | k + 1 => 27 * cdN tx b k + (tx (b + k) - 96)
def nmN (tx : Nat → Nat) (b : Nat) : Nat → Nat
  | 0 => 0
  | k + 1 => if k < 3 then 10 * nmN tx b k + (tx (b + k) - 48) else nmN tx b k
def cdI (tx : Nat → Nat) (b k : Nat) : Int64 := if k ≤ 9 then lN (cdN tx b k) else -4
/-- the reference's number for a token, its digits, its value -/
def tC (σ : Sg) (p : Nat) : Int64 := if tK σ p = 3 then -2 else if tK σ p = 0 then cdI (s_tx σ) (tB σ p) (tE σ p - tB σ p) else if tK σ p = 1 then (if 3 < tE σ p - tB σ p then -4 else -1) else if s_tx σ (tB σ p) = 59 then -3 else -4
def tG (σ : Sg) (p : Nat) : Nat := if tK σ p = 1 then tE σ p - tB σ p else 0
def tN (σ : Sg) (p : Nat) : Nat := if tK σ p = 1 then nmN (s_tx σ) (tB σ p) (tE σ p - tB σ p) else 0
theorem tB_le {σ : Sg} {p : Nat} (h : p ≤ s_ln σ) : tB σ p ≤ s_ln σ := rn_le h
theorem tE_le {σ : Sg} {p : Nat} (h : p ≤ s_ln σ) : tE σ p ≤ s_ln σ := by
  have h1 := tB_le h
  unfold tE
  split
  · exact h1
  · split
    · exact rn_le h1
    · split
      · exact rn_le h1
      · omega
theorem tB_tE (σ : Sg) (p : Nat) : tB σ p ≤ tE σ p := by
  unfold tE
  split
  · exact Nat.le_refl _
  · split
    · exact rn_ge
    · split
      · exact rn_ge
      · omega
theorem nmN_le {tx : Nat → Nat} {b : Nat} : ∀ {k : Nat}, (∀ i, i < k → qD (tx (b + i)) = true) → nmN tx b k ≤ 10 ^ (min k 3) - 1
  | 0, _ => by simp [nmN]
  | k + 1, h => by
    have h1 := nmN_le (k := k) (fun i hi => h i (by omega))
    have h2 := of_decide_eq_true (h k (by omega))
    rw [nmN]
    by_cases c : k < 3
    · rw [if_pos c]
      rw [show min k 3 = k by omega] at h1
      rw [show min (k + 1) 3 = k + 1 by omega, Nat.pow_succ]
      have := Nat.pow_pos (n := k) (show 0 < 10 by decide)
      omega
    · rw [if_neg c]
      rw [show min k 3 = 3 by omega] at h1
      rw [show min (k + 1) 3 = 3 by omega]
      exact h1
theorem nmN_999 {tx : Nat → Nat} {b k : Nat} (h : ∀ i, i < k → qD (tx (b + i)) = true) : nmN tx b k ≤ 999 := by
  have h1 := nmN_le h
  have h2 : 10 ^ (min k 3) ≤ 10 ^ 3 := Nat.pow_le_pow_right (by decide) (by omega)
  omega
theorem cdN_lt {tx : Nat → Nat} {b : Nat} : ∀ {k : Nat}, (∀ i, i < k → qL (tx (b + i)) = true) → cdN tx b k < 27 ^ k
  | 0, _ => by simp [cdN]
  | k + 1, h => by
    have h1 := cdN_lt (k := k) (fun i hi => h i (by omega))
    have h2 := of_decide_eq_true (h k (by omega))
    rw [cdN, Nat.pow_succ]
    omega
theorem in_qL {c : Nat} (hc : c < 256) : decide (nI 97 ≤ nI c ∧ nI c ≤ nI 122) = qL c := by
  unfold qL
  rw [decide_eq_decide, nI_leI (by decide) (by omega), nI_leI (by omega) (by decide)]
theorem in_qD {c : Nat} (hc : c < 256) : decide (nI 48 ≤ nI c ∧ nI c ≤ nI 57) = qD c := by
  unfold qD
  rw [decide_eq_decide, nI_leI (by decide) (by omega), nI_leI (by omega) (by decide)]
