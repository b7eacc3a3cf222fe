/-! what the answers are, over the abstract state -/
def isIx (n : Nat) (x : Int32) : Bool := decide (0 ≤ x ∧ x < nI n)
theorem ix_toInt (n : Nat) (h : n < 2 ^ 31) (x : Int32) : isIx n x = true ↔ 0 ≤ x.toInt ∧ x.toInt < n := by
  unfold isIx
  rw [decide_eq_true_iff, Int32.le_iff_toInt_le, Int32.lt_iff_toInt_lt, nI_toInt h]
  rfl
theorem ix_of {n : Nat} {x : Int32} (c : isIx n x = true) (h : n < 2 ^ 31) : ∃ k, k < n ∧ x = nI k := by
  have h1 := (ix_toInt n h x).mp c
  refine ⟨x.toInt.toNat, by omega, ?_⟩
  apply Int32.toInt_inj.mp
  rw [nI_toInt (by omega)]
  omega
theorem ix_nI {n k : Nat} (h : n < 2 ^ 31) (hk : k < 2 ^ 31) : isIx n (nI k) = decide (k < n) := by
  have h1 := ix_toInt n h (nI k)
  rw [nI_toInt hk] at h1
  cases hq : isIx n (nI k) with
  | true => rw [hq] at h1; exact (decide_eq_true (by have := h1.mp rfl; omega)).symm
  | false => rw [hq] at h1; refine (decide_eq_false (fun q => ?_)).symm; have := h1.mpr (by omega); cases this
theorem ix_le {n : Nat} (h : n < 2 ^ 31) (x : Int32) : decide (nI 0 ≤ x ∧ x ≤ nI n - nI 1) = isIx n x := by
  have h0 : (nI 0).toInt = 0 := rfl
  have h1 : (nI n - nI 1).toInt = (n : Int) - 1 := by
    rcases Nat.eq_zero_or_pos n with rfl | hp
    · rfl
    · rw [pk_sub hp, nI_toInt (by omega)]; omega
  have h2 := ix_toInt n h x
  cases hq : isIx n x with
  | true => rw [hq] at h2; have := h2.mp rfl; rw [decide_eq_true_iff, Int32.le_iff_toInt_le, Int32.le_iff_toInt_le, h0, h1]; omega
  | false => rw [hq] at h2; rw [decide_eq_false_iff_not, Int32.le_iff_toInt_le, Int32.le_iff_toInt_le, h0, h1]; intro q; have := h2.mpr (by omega); cases this
theorem bit_and (x k : Nat) : x / 2 ^ k &&& 1 = (x.testBit k).toNat := by
  rw [Nat.and_one_is_mod, Nat.testBit_eq_decide_div_mod_eq]
  rcases Nat.mod_two_eq_zero_or_one (x / 2 ^ k) with h | h <;> simp [h]
theorem bit_1 (x k : Nat) : (x / 2 ^ k &&& 1 = 1) ↔ x.testBit k = true := by
  rw [bit_and]; cases x.testBit k <;> simp
theorem pw_le {k n : Nat} (h : k ≤ n) : 2 ^ k ≤ 2 ^ n := Nat.pow_le_pow_right (by decide) h
theorem pw_8 {k : Nat} (h : k ≤ 8) : 2 ^ k ≤ 256 := pw_le (n := 8) h
theorem pw_pos (k : Nat) : 0 < 2 ^ k := Nat.two_pow_pos k
def sumN (f : Nat → Nat) : Nat → Nat
  | 0 => 0
  | n + 1 => sumN f n + f n
theorem sumN_le {f : Nat → Nat} {b : Nat} : ∀ {n : Nat}, (∀ k, k < n → f k ≤ b) → sumN f n ≤ n * b
  | 0, _ => by simp [sumN]
  | n + 1, h => by
    have h1 := sumN_le (n := n) (fun k hk => h k (Nat.lt_succ_of_lt hk))
    have h2 := h n (Nat.lt_succ_self n)
    rw [sumN, Nat.succ_mul]
    omega
theorem sumN_cong {f g : Nat → Nat} : ∀ {n : Nat}, (∀ k, k < n → f k = g k) → sumN f n = sumN g n
  | 0, _ => rfl
  | n + 1, h => by rw [sumN, sumN, sumN_cong (fun k hk => h k (Nat.lt_succ_of_lt hk)), h n (Nat.lt_succ_self n)]
/-- the pounds of a thing, the hats of h off -/
def pd (σ : Sg) (h t : Nat) : Nat := s_th σ (6 * t + 1) + (if h.testBit t then 0 else s_th σ (6 * t + 3))
def pdA (σ : Sg) (ld h : Nat) : Nat := sumN (fun t => if ld.testBit t then pd σ h t else 0) (s_n σ)
def wiA (σ : Sg) (ld : Nat) : Nat := sumN (fun t => if ld.testBit t then s_th σ (6 * t + 4) else 0) (s_n σ)
def unA (σ : Sg) (ld : Nat) : Nat := sumN (fun t => if ld.testBit t then s_th σ (6 * t + 5) else 0) (s_n σ)
def bits (S : Nat) : Nat := sumN (fun k => (S.testBit k).toNat) 8
def rev3 (x : Nat) : Nat := if x < 10 then x else if x < 100 then x % 10 * 10 + x / 10 else x % 10 * 100 + x / 10 % 10 * 10 + x / 100
def numN (σ : Sg) (f : Nat) : Nat := if s_fe σ (5 * f) < 2 ∨ s_la σ = false then s_fe σ (5 * f + 1) else rev3 (s_fe σ (5 * f + 1))
def plN (σ : Sg) (f : Nat) : Nat := if s_fe σ (5 * f) = 1 then 1 else 0
def adif (a b : Nat) : Nat := if a < b then b - a else a - b
/-- pounds, with some play more, are THE NUMBER -/
def fit (σ : Sg) (f pds more : Nat) : Bool := decide (adif pds (numN σ f) + more ≤ plN σ f)
def anyN (p : Nat → Bool) : Nat → Bool
  | 0 => false
  | n + 1 => anyN p n || p n
def hasP (σ : Sg) (ld : Nat) : Bool := anyN (fun t => ld.testBit t && decide (s_th σ (6 * t) = 0)) (s_n σ)
def onB (b : Bool) (ld there : Nat) : Bool := if b then decide (ld &&& there = ld) else decide (ld &&& there = 0)
def board (σ : Sg) (f ld there boats : Nat) : Bool := hasP σ ld && onB (boats.testBit f) ld there
def isR (σ : Sg) (f ld there boats h : Nat) : Bool := board σ f ld there boats && decide (bits ld ≤ s_fe σ (5 * f + 3)) && fit σ f (pdA σ ld h) 0
def wfT (th : Nat → Nat) : Prop := ∀ t, t < 8 → th (6 * t) ≤ 3 ∧ th (6 * t + 1) ≤ 99 ∧ th (6 * t + 2) ≤ 1 ∧ th (6 * t + 3) ≤ 9 ∧ th (6 * t + 4) ≤ 9 ∧ th (6 * t + 5) ≤ 1 ∧ (2 ≤ th (6 * t) → th (6 * t + 3) = 0)
def wfF (fe : Nat → Nat) : Prop := ∀ f, f < 3 → fe (5 * f) ≤ 2 ∧ fe (5 * f + 1) ≤ 999 ∧ fe (5 * f + 2) ≤ 1 ∧ fe (5 * f + 3) ≤ 8 ∧ fe (5 * f + 4) ≤ 9
def wfS (σ : Sg) : Prop := s_n σ ≤ 8 ∧ s_m σ ≤ 3 ∧ wfT (s_th σ) ∧ wfF (s_fe σ) ∧ s_ln σ ≤ 200 ∧ (∀ i, s_tx σ i < 256) ∧ s_ov σ < 2 ^ s_n σ ∧ s_mo σ < 2 ^ s_m σ ∧ s_of σ < 2 ^ s_n σ ∧ s_rn σ ≤ 12 ∧ (∀ f, f < s_m σ → 1 ≤ s_fe σ (5 * f + 4)) ∧ (∀ k, k < s_rn σ → s_ro σ (2 * k) < s_m σ ∧ s_ro σ (2 * k + 1) < 2 ^ s_n σ) ∧ (∀ k, k < 2 → s_kp σ k = true → s_im σ (5 * k) < 2 ^ s_n σ ∧ s_im σ (5 * k + 1) < 2 ^ s_m σ ∧ s_im σ (5 * k + 2) < 2 ^ s_n σ) ∧ (∀ k, k < 2 → s_im σ (5 * k + 3) ≤ 1)
theorem pd_le {σ : Sg} (hw : wfS σ) (h : Nat) {t : Nat} (ht : t < 8) : pd σ h t ≤ 108 := by
  have h1 := hw.2.2.1 t ht
  unfold pd
  split <;> omega
theorem pdA_le {σ : Sg} (hw : wfS σ) (ld h : Nat) : pdA σ ld h ≤ 864 := by
  have h1 : pdA σ ld h ≤ s_n σ * 108 := sumN_le (fun t ht => by
    split
    · exact pd_le hw h (Nat.lt_of_lt_of_le ht hw.1)
    · omega)
  have h2 := hw.1
  omega
theorem pdT_le {σ : Sg} (hw : wfS σ) (ld h : Nat) {i : Nat} (hi : i ≤ s_n σ) : sumN (fun t => if ld.testBit t then pd σ h t else 0) i ≤ 864 := by
  have h1 : sumN (fun t => if ld.testBit t then pd σ h t else 0) i ≤ i * 108 := sumN_le (fun t ht => by
    split
    · exact pd_le hw h (Nat.lt_of_lt_of_le ht (Nat.le_trans hi hw.1))
    · omega)
  have h2 := hw.1
  omega
theorem bits_le (S : Nat) : bits S ≤ 8 := sumN_le (b := 1) (fun k _ => by cases S.testBit k <;> decide)
