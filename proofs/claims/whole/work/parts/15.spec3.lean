def oI (o : Option Nat) : Int32 := match o with
  | none => -1
  | some k => nI k
/-- the first below i -/
def fst (p : Nat → Bool) : Nat → Option Nat
  | 0 => none
  | i + 1 => match fst p i with
    | some k => some k
    | none => if p i then some i else none
/-- the one with the greatest w, of several the first -/
def bst (p : Nat → Bool) (w : Nat → Nat) : Nat → Option Nat
  | 0 => none
  | i + 1 => if p i then (match bst p w i with
    | none => some i
    | some b => if w b < w i then some i else some b) else bst p w i
/-- the one with the least w that goes, of several the first -/
def lwt (p : Nat → Bool) (w : Nat → Nat) : Nat → Option Nat
  | 0 => none
  | i + 1 => if p i then (match lwt p w i with
    | none => some i
    | some b => if w i < w b then some i else some b) else lwt p w i
def cntN (p : Nat → Bool) (i : Nat) : Nat := sumN (fun x => (p x).toNat) i
def orN (p : Nat → Bool) : Nat → Nat
  | 0 => 0
  | i + 1 => if p i then orN p i ||| i else orN p i
def andN (p : Nat → Bool) (a : Nat) : Nat → Nat
  | 0 => a
  | i + 1 => if p i then andN p a i &&& i else andN p a i
theorem fst_lt {p : Nat → Bool} : ∀ {i k : Nat}, fst p i = some k → k < i
  | 0, k, h => by cases h
  | i + 1, k, h => by
    rw [fst] at h
    cases hq : fst p i with
    | some j => rw [hq] at h; have := fst_lt hq; cases h; omega
    | none => rw [hq] at h; dsimp only at h; split at h; cases h; omega; cases h
theorem bst_lt {p : Nat → Bool} {w : Nat → Nat} : ∀ {i k : Nat}, bst p w i = some k → k < i
  | 0, k, h => by cases h
  | i + 1, k, h => by
    rw [bst] at h
    split at h
    · cases hq : bst p w i with
      | none => rw [hq] at h; cases h; omega
      | some j =>
        rw [hq] at h
        have := bst_lt hq
        dsimp only at h
        split at h <;> (cases h; omega)
    · have := bst_lt h; omega
theorem lwt_lt {p : Nat → Bool} {w : Nat → Nat} : ∀ {i k : Nat}, lwt p w i = some k → k < i
  | 0, k, h => by cases h
  | i + 1, k, h => by
    rw [lwt] at h
    split at h
    · cases hq : lwt p w i with
      | none => rw [hq] at h; cases h; omega
      | some j =>
        rw [hq] at h
        have := lwt_lt hq
        dsimp only at h
        split at h <;> (cases h; omega)
    · have := lwt_lt h; omega
theorem cntN_t {p : Nat → Bool} {i : Nat} (h : p i = true) : cntN p i + 1 = cntN p (i + 1) := by rw [cntN, cntN, sumN, h]; rfl
theorem cntN_f {p : Nat → Bool} {i : Nat} (h : p i = false) : cntN p i = cntN p (i + 1) := by rw [cntN, cntN, sumN, h]; rfl
theorem cntN_le (p : Nat → Bool) (i : Nat) : cntN p i ≤ i := by
  have h : cntN p i ≤ i * 1 := sumN_le (fun k _ => by cases p k <;> decide)
  omega
theorem orN_lt {p : Nat → Bool} {n : Nat} : ∀ {i : Nat}, i ≤ 2 ^ n → orN p i < 2 ^ n
  | 0, _ => Nat.two_pow_pos n
  | i + 1, h => by
    rw [orN]
    split
    · exact Nat.or_lt_two_pow (orN_lt (by omega)) (by omega)
    · exact orN_lt (by omega)
theorem andN_le (p : Nat → Bool) (a : Nat) : ∀ i : Nat, andN p a i ≤ a
  | 0 => Nat.le_refl a
  | i + 1 => by
    rw [andN]
    split
    · exact Nat.le_trans Nat.and_le_left (andN_le p a i)
    · exact andN_le p a i
def v_loads (σ : Sg) (f w : Nat) : Int32 := match w with
  | 0 => nI (cntN (riN σ f) (2 ^ s_n σ))
  | 1 => oI (fst (riN σ f) (2 ^ s_n σ))
  | 2 => oI (bst (riN σ f) (wiA σ) (2 ^ s_n σ))
  | _ => match bst (riN σ f) (wiA σ) (2 ^ s_n σ) with
    | none => -1
    | some b => nI (wiA σ b)
def a_loads (σ : Sg) (f w : Int32) : Int32 := if isIx (s_m σ) f = false then -2 else if isIx 4 w = false then -3 else v_loads σ (tk f) (tk w)
def weP (σ : Sg) (bk : Bool) (p x : Nat) : Bool := decide (1 ≤ x) && onB bk x (s_ov σ) && decide (pdA σ x (s_of σ) = p)
def okP (p : Int32) : Bool := decide (nI 1 ≤ p ∧ p ≤ nI 999)
def a_weighed (σ : Sg) (bk p : Int32) : Int32 := if isIx 2 bk = false then -2 else if okP p = false then -3 else nI (cntN (weP σ (decide (tk bk = 1)) (tk p)) (2 ^ s_n σ))
def allN (p : Nat → Bool) : Nat → Bool
  | 0 => true
  | i + 1 => allN p i && p i
def hatOk (σ : Sg) (x h : Nat) : Bool := decide (h &&& x = h) && allN (fun t => !h.testBit t || decide (s_th σ (6 * t) < 2)) (s_n σ)
def haP (σ : Sg) (f x h : Nat) : Bool := hatOk σ x h && isR σ f x (s_ov σ) (s_mo σ) h
def haB (σ : Sg) (f x : Nat) : Option Nat := lwt (haP σ f x) bits (2 ^ s_n σ)
def a_hats (σ : Sg) (f x w : Int32) : Int32 := if (isIx (s_m σ) f && isIx (2 ^ s_n σ) x) = false then -2 else if isIx 2 w = false then -3 else match haB σ (tk f) (tk x) with
  | none => -1
  | some h => if tk w = 1 then nI h else nI (bits h)
def okW (w : Int32) : Bool := decide (nI 1 ≤ w ∧ w ≤ nI 99)
def stP (σ : Sg) (f x w k : Nat) : Bool := fit σ f (pdA σ x (s_of σ) + k * w) 0
def v_stones (σ : Sg) (f x w : Nat) : Int32 := if board σ f x (s_ov σ) (s_mo σ) then oI (fst (stP σ f x w) (s_fe σ (5 * f + 3) + 1 - bits x)) else -1
def a_stones (σ : Sg) (f x w : Int32) : Int32 := if (isIx (s_m σ) f && isIx (2 ^ s_n σ) x) = false then -2 else if okW w = false then -3 else v_stones σ (tk f) (tk x) (tk w)
def suP (σ : Sg) (f x : Nat) : Bool := riN σ f x && fit σ f (pdA σ x (s_of σ)) (unA σ x)
def a_sure (σ : Sg) (f : Int32) : Int32 := if isIx (s_m σ) f = false then -2 else nI (cntN (suP σ (tk f)) (2 ^ s_n σ))
def abP (σ : Sg) (f i o x : Nat) : Bool := decide (i &&& x = i) && decide (o &&& x = 0) && riN σ f x
def v_aboard (σ : Sg) (f i o w : Nat) : Int32 := if w = 0 then nI (cntN (abP σ f i o) (2 ^ s_n σ)) else if cntN (abP σ f i o) (2 ^ s_n σ) = 0 then -1 else if w = 1 then nI (orN (abP σ f i o) (2 ^ s_n σ)) else nI (andN (abP σ f i o) (2 ^ s_n σ - 1) (2 ^ s_n σ))
def a_aboard (σ : Sg) (f i o w : Int32) : Int32 := if (isIx (s_m σ) f && isIx (2 ^ s_n σ) i && isIx (2 ^ s_n σ) o) = false then -2 else if isIx 3 w = false then -3 else v_aboard σ (tk f) (tk i) (tk o) (tk w)
def jT (σ : Sg) : Nat → Nat
  | 0 => s_ov σ
  | k + 1 => jT σ k ^^^ s_ro σ (2 * k + 1)
def jB (σ : Sg) : Nat → Nat
  | 0 => s_mo σ
  | k + 1 => jB σ k ^^^ 2 ^ s_ro σ (2 * k)
def juP (σ : Sg) (k : Nat) : Bool := !isR σ (s_ro σ (2 * k)) (s_ro σ (2 * k + 1)) (jT σ k) (jB σ k) (s_of σ)
def a_judge (σ : Sg) : Int32 := oI (fst (juP σ) (s_rn σ))
