/-! the answers of the public calls, and the states behind them -/
abbrev tk (x : Int32) : Nat := x.toNatClampNeg
def byteN (b : Int64) (i : Nat) : Nat := (b >>> ((nI (8 * i)).toInt64 &&& 63)).toBitVec.toNat % 256
theorem byteN_lt (b : Int64) (i : Nat) : byteN b i < 256 := Nat.mod_lt _ (by decide)
theorem byte_nI (z : Int64) : (z &&& 255).toInt32 = nI (z.toBitVec.toNat % 256) := by
  apply Int32.toBitVec_inj.1
  show (z.toBitVec &&& 255#64).signExtend 32 = BitVec.ofNat 32 _
  apply BitVec.eq_of_toNat_eq
  have h : (z.toBitVec &&& 255#64).toNat = z.toBitVec.toNat % 256 := by
    rw [BitVec.toNat_and]
    exact Nat.and_two_pow_sub_one_eq_mod _ 8
  rw [BitVec.signExtend_eq_setWidth_of_le _ (by decide), BitVec.toNat_setWidth, h, BitVec.toNat_ofNat]
def txW (tx : Nat → Nat) (ln : Nat) (b : Int64) (i : Nat) : Nat → Nat := fun j => if ln ≤ j ∧ j < ln + i then byteN b (j - ln) else tx j
theorem txW_0 (tx : Nat → Nat) (ln : Nat) (b : Int64) : txW tx ln b 0 = tx := by funext j; rw [txW, if_neg (by omega)]
theorem txW_s (tx : Nat → Nat) (ln : Nat) (b : Int64) (i : Nat) : updN (txW tx ln b i) (ln + i) (byteN b i) = txW tx ln b (i + 1) := by
  funext j
  unfold updN txW
  by_cases h : j = ln + i
  · subst h; rw [if_pos rfl, if_pos (by omega), Nat.add_sub_cancel_left]
  · rw [if_neg h]
    by_cases h2 : ln ≤ j ∧ j < ln + i
    · rw [if_pos h2, if_pos (by omega)]
    · rw [if_neg h2, if_neg (by omega)]
def okN (n : Int32) : Bool := decide (nI 1 ≤ n ∧ n ≤ nI 8)
def a_write (σ : Sg) (n : Int32) : Int32 := if okN n = false then -3 else if s_ln σ + tk n > 200 then -5 else nI (s_ln σ + tk n)
def n_write (σ : Sg) (b : Int64) (n : Int32) : Sg := if okN n = true ∧ s_ln σ + tk n ≤ 200 then su_ln (su_tx σ (txW (s_tx σ) (s_ln σ) b (tk n))) (s_ln σ + tk n) else σ
def n_erase (σ : Sg) : Sg := su_ln σ 0
def v_thing (σ : Sg) (t w : Nat) : Int32 := match w with
  | 0 => nI (s_th σ (6 * t))
  | 1 => nI (s_th σ (6 * t + 1))
  | 2 => nI ((s_ov σ).testBit t).toNat
  | 3 => nI (s_th σ (6 * t + 3))
  | 4 => bI (decide (s_th σ (6 * t) < 2) && !(s_of σ).testBit t)
  | 5 => nI (s_th σ (6 * t + 4))
  | 6 => nI (s_th σ (6 * t + 5))
  | _ => nI (pd σ (s_of σ) t)
def a_thing (σ : Sg) (t w : Int32) : Int32 := if isIx (s_n σ) t = false then -2 else if isIx 8 w = false then -3 else v_thing σ (tk t) (tk w)
def v_ferry (σ : Sg) (f w : Nat) : Int32 := match w with
  | 0 => nI (s_fe σ (5 * f))
  | 1 => nI (numN σ f)
  | 2 => nI ((s_mo σ).testBit f).toNat
  | 3 => nI (s_fe σ (5 * f + 3))
  | _ => nI (s_fe σ (5 * f + 4))
def a_ferry (σ : Sg) (f w : Int32) : Int32 := if isIx (s_m σ) f = false then -2 else if isIx 5 w = false then -3 else v_ferry σ (tk f) (tk w)
def isAs (own k : Nat) : Bool := decide (k = 0 ∨ k = 1 ∧ own < 3 ∨ k = 2 ∧ own < 2 ∨ k = 3 ∧ own = 1 ∨ k = 4 ∧ own = 2 ∨ k = 5 ∧ own = 3)
def a_as (σ : Sg) (t k : Int32) : Int32 := if isIx (s_n σ) t = false then -2 else if isIx 6 k = false then -3 else if isAs (s_th σ (6 * tk t)) (tk k) then nI (pd σ (s_of σ) (tk t)) else -4
def riN (σ : Sg) (f x : Nat) : Bool := isR σ f x (s_ov σ) (s_mo σ) (s_of σ)
def a_right (σ : Sg) (f x : Int32) : Int32 := if (isIx (s_m σ) f && isIx (2 ^ s_n σ) x) = false then -2 else bI (riN σ (tk f) (tk x))
def a_cross (σ : Sg) (f x : Int32) : Int32 := if (isIx (s_m σ) f && isIx (2 ^ s_n σ) x) = false then -2 else if riN σ (tk f) (tk x) = false then -4 else nI (s_cr σ + 1)
def n_cross (σ : Sg) (f x : Int32) : Sg := if isIx (s_m σ) f = true ∧ isIx (2 ^ s_n σ) x = true ∧ riN σ (tk f) (tk x) = true then su_cr (su_mo (su_ov σ (s_ov σ ^^^ tk x)) (s_mo σ ^^^ 2 ^ tk f)) (s_cr σ + 1) else σ
def a_doff (σ : Sg) (t : Int32) : Int32 := if isIx (s_n σ) t = false then -2 else if 1 < s_th σ (6 * tk t) then -4 else nI (pd σ (s_of σ ^^^ 2 ^ tk t) (tk t))
def n_doff (σ : Sg) (t : Int32) : Sg := if isIx (s_n σ) t = true ∧ s_th σ (6 * tk t) ≤ 1 then su_of σ (s_of σ ^^^ 2 ^ tk t) else σ
def n_noon (σ : Sg) : Sg := su_la σ (!s_la σ)
def imK (σ : Sg) (k : Nat) : Nat → Nat := fun j => if j = 5 * k then s_ov σ else if j = 5 * k + 1 then s_mo σ else if j = 5 * k + 2 then s_of σ else if j = 5 * k + 3 then (s_la σ).toNat else if j = 5 * k + 4 then s_cr σ else s_im σ j
def a_keep (σ : Sg) (k : Int32) : Int32 := if isIx 2 k = false then -2 else nI (s_cr σ)
def n_keep (σ : Sg) (k : Int32) : Sg := if isIx 2 k = true then su_kp (su_im σ (imK σ (tk k))) (updB (s_kp σ) (tk k) true) else σ
def a_back (σ : Sg) (k : Int32) : Int32 := if isIx 2 k = false then -2 else if s_kp σ (tk k) = false then -4 else nI (s_im σ (5 * tk k + 4))
def n_back (σ : Sg) (k : Int32) : Sg := if isIx 2 k = true ∧ s_kp σ (tk k) = true then su_cr (su_la (su_of (su_mo (su_ov σ (s_im σ (5 * tk k))) (s_im σ (5 * tk k + 1))) (s_im σ (5 * tk k + 2))) (decide (s_im σ (5 * tk k + 3) = 1))) (s_im σ (5 * tk k + 4)) else σ
def a_row (σ : Sg) (f x : Int32) : Int32 := if (isIx (s_m σ) f && isIx (2 ^ s_n σ) x) = false then -2 else if 12 ≤ s_rn σ then -5 else nI (s_rn σ + 1)
def roA (σ : Sg) (f x : Nat) : Nat → Nat := updN (updN (s_ro σ) (2 * s_rn σ) f) (2 * s_rn σ + 1) x
def n_row (σ : Sg) (f x : Int32) : Sg := if isIx (s_m σ) f = true ∧ isIx (2 ^ s_n σ) x = true ∧ s_rn σ < 12 then su_rn (su_ro σ (roA σ (tk f) (tk x))) (s_rn σ + 1) else σ
def n_burn (σ : Sg) : Sg := su_rn σ 0
def v_count (σ : Sg) (w : Nat) : Int32 := match w with
  | 0 => nI (s_n σ)
  | 1 => nI (s_m σ)
  | 2 => nI (s_ov σ)
  | 3 => nI (s_mo σ)
  | 4 => nI (s_cr σ)
  | 5 => bI (s_la σ)
  | 6 => nI (s_rn σ)
  | _ => nI (s_ln σ)
def a_count (σ : Sg) (w : Int32) : Int32 := if isIx 8 w = false then -3 else v_count σ (tk w)
theorem bI_toNat (b : Bool) : bI b = nI b.toNat := by cases b <;> rfl
theorem bI_1 {x : Nat} (h : x ≤ 1) : nI x = bI (decide (x = 1)) := by
  rcases (show x = 0 ∨ x = 1 by omega) with rfl | rfl <;> rfl
theorem sub1_b (b : Bool) : nI 1 - bI b = bI (!b) := by cases b <;> rfl
theorem sw_in {n : Nat} (h : n < 2 ^ 31) (x : Int32) : (∃ k, k < n ∧ x = nI k) ∨ isIx n x = false := by
  cases hq : isIx n x with
  | true => exact Or.inl (ix_of hq h)
  | false => exact Or.inr rfl
theorem sw_out {n : Nat} (h : n < 2 ^ 31) {x : Int32} (c : isIx (n + 1) x = false) (hn : n + 1 < 2 ^ 31) : x.toInt < 0 ∨ (n : Int) < x.toInt := by
  have h1 := ix_toInt (n + 1) hn x
  rw [c] at h1
  by_cases q : 0 ≤ x.toInt ∧ x.toInt < ((n + 1 : Nat) : Int)
  · exact absurd (h1.mpr q) (by decide)
  · omega
theorem okN_of {n : Int32} (h : okN n = true) : ∃ k, 1 ≤ k ∧ k ≤ 8 ∧ n = nI k := by
  unfold okN at h
  rw [decide_eq_true_iff, Int32.le_iff_toInt_le, Int32.le_iff_toInt_le] at h
  have h1 : (nI 1).toInt = 1 := rfl
  have h8 : (nI 8).toInt = 8 := rfl
  refine ⟨n.toInt.toNat, by omega, by omega, ?_⟩
  apply Int32.toInt_inj.mp
  rw [nI_toInt (by omega)]
  omega
theorem tk_nI {k : Nat} (h : k < 2 ^ 31) : tk (nI k) = k := nI_clamp h
theorem ix2 {k : Int32} {b : Bool} (h : decide (nI 0 ≤ k ∧ k ≤ nI 1) = b) : isIx 2 k = b := (ix_le (n := 2) (by decide) k).symm.trans h
theorem ix6 {k : Int32} {b : Bool} (h : decide (nI 0 ≤ k ∧ k ≤ nI 5) = b) : isIx 6 k = b := (ix_le (n := 6) (by decide) k).symm.trans h
theorem ix4 {k : Int32} {b : Bool} (h : decide (nI 0 ≤ k ∧ k ≤ nI 3) = b) : isIx 4 k = b := (ix_le (n := 4) (by decide) k).symm.trans h
theorem ix3 {k : Int32} {b : Bool} (h : decide (nI 0 ≤ k ∧ k ≤ nI 2) = b) : isIx 3 k = b := (ix_le (n := 3) (by decide) k).symm.trans h
theorem keep_im (σ : Sg) (k : Nat) : updN (updN (updN (updN (updN (s_im σ) (5 * k) (s_ov σ)) (5 * k + 1) (s_mo σ)) (5 * k + 2) (s_of σ)) (5 * k + 3) (s_la σ).toNat) (5 * k + 4) (s_cr σ) = imK σ k := by
  funext j
  unfold updN imK
  by_cases h0 : j = 5 * k
  · rw [if_neg (by omega), if_neg (by omega), if_neg (by omega), if_neg (by omega), if_pos h0, if_pos h0]
  · by_cases h1 : j = 5 * k + 1
    · rw [if_neg (by omega), if_neg (by omega), if_neg (by omega), if_pos h1, if_neg h0, if_pos h1]
    · by_cases h2 : j = 5 * k + 2
      · rw [if_neg (by omega), if_neg (by omega), if_pos h2, if_neg h0, if_neg h1, if_pos h2]
      · by_cases h3 : j = 5 * k + 3
        · rw [if_neg (by omega), if_pos h3, if_neg h0, if_neg h1, if_neg h2, if_pos h3]
        · by_cases h4 : j = 5 * k + 4
          · rw [if_pos h4, if_neg h0, if_neg h1, if_neg h2, if_neg h3, if_pos h4]
          · rw [if_neg h4, if_neg h3, if_neg h2, if_neg h1, if_neg h0, if_neg h0, if_neg h1, if_neg h2, if_neg h3, if_neg h4]
