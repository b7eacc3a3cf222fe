/-! lines -/
def tNum (σ : Sg) (o : Nat) : Bool := decide (tK σ o = 1 ∧ tE σ o - tB σ o ≤ 3)
def inB (lo hi v : Nat) : Bool := decide (lo ≤ v ∧ v ≤ hi)
/-- numbers one after another: the first fault, or where they end and what they are -/
def rNum (σ : Sg) : List (Nat → Bool) → Nat → Sum Nat (Nat × List Nat)
  | [], o => .inr (o, [])
  | q :: qs, o => if (tNum σ o && q (tN σ o)) = true then (match rNum σ qs (tE σ o) with | .inl f => .inl f | .inr r => .inr (r.1, tN σ o :: r.2)) else .inl (tB σ o)
def wdN (c : Int64) : Nat := if c = 232608281 then 0 else if c = 1758676 then 1 else if c = 1162559 then 2 else if c = 10502357 then 3 else if c = 3130427 then 4 else if c = 6683990 then 5 else if c = 8059585273 then 6 else if c = 10266269 then 7 else if c = 5879 then 8 else if c = 459791 then 9 else if c = 309156998 then 10 else 11
def slo (τ : Sg) : Nat → List (Nat → Bool)
  | 0 => [inB 1 99, inB 0 1]
  | 1 => [inB 1 99, inB 0 1]
  | 2 => [inB 1 99, inB 0 1]
  | 3 => [inB 1 99, inB 0 1]
  | 4 => [inB 1 999, inB 0 1, inB 1 8, inB 1 9]
  | 5 => [inB 1 999, inB 0 1, inB 1 8, inB 1 9]
  | 6 => [inB 1 999, inB 0 1, inB 1 8, inB 1 9]
  | 7 => []
  | 8 => [fun v => decide (v < s_n τ) && decide (s_th τ (6 * v) < 2), inB 0 9]
  | 9 => [fun v => decide (v < s_n τ), inB 0 9]
  | _ => [fun v => decide (v < s_n τ)]
def tooM (τ : Sg) (k : Nat) : Bool := (decide (k < 4) && decide (s_n τ = 8)) || (decide (4 ≤ k ∧ k < 7) && decide (s_m τ = 3))
/-- a line: the first fault, or where it ends, its word and its numbers -/
def rLine (σ τ : Sg) (o : Nat) : Sum Nat (Nat × Nat × List Nat) := if wdN (tC σ o) = 11 ∨ tooM τ (wdN (tC σ o)) = true then .inl (tB σ o) else (match rNum σ (slo τ (wdN (tC σ o))) (tE σ o) with | .inl f => .inl f | .inr r => .inr (r.1, wdN (tC σ o), r.2))
def lg (l : List Nat) (i : Nat) : Nat := l.getD i 0
def th6 (th : Nat → Nat) (n k a b : Nat) : Nat → Nat := updN (updN (updN (updN (updN (updN th (6 * n) k) (6 * n + 1) a) (6 * n + 2) b) (6 * n + 3) 0) (6 * n + 4) 0) (6 * n + 5) 0
def fe5 (fe : Nat → Nat) (m k a b c d : Nat) : Nat → Nat := updN (updN (updN (updN (updN fe (5 * m) k) (5 * m + 1) a) (5 * m + 2) b) (5 * m + 3) c) (5 * m + 4) d
def doT (τ : Sg) (k : Nat) (l : List Nat) : Sg := su_n (su_th τ (th6 (s_th τ) (s_n τ) k (lg l 0) (lg l 1))) (s_n τ + 1)
def doF (τ : Sg) (k : Nat) (l : List Nat) : Sg := su_m (su_fe τ (fe5 (s_fe τ) (s_m τ) (k - 4) (lg l 0) (lg l 1) (lg l 2) (lg l 3))) (s_m τ + 1)
/-- a line is carried out -/
def doL (τ : Sg) (k : Nat) (l : List Nat) : Sg := if k < 4 then doT τ k l else if k < 7 then doF τ k l else if k = 7 then su_m (su_n τ 0) 0 else if k = 8 then su_th τ (updN (s_th τ) (6 * lg l 0 + 3) (lg l 1)) else if k = 9 then su_th τ (updN (s_th τ) (6 * lg l 0 + 4) (lg l 1)) else su_th τ (updN (s_th τ) (6 * lg l 0 + 5) 1)
/-- at most k lines more: the first fault, or the lines -/
def rRun (σ : Sg) : Nat → Sg → Nat → Sum Nat (List (Nat × List Nat))
  | 0, _, _ => .inl 0
  | k + 1, τ, o => match rLine σ τ o with
    | .inl f => .inl f
    | .inr r => if tC σ r.1 = -2 then .inr [r.2] else if tC σ r.1 = -3 ∧ 0 < k then (match rRun σ k (doL τ r.2.1 r.2.2) (tE σ r.1) with | .inl f => .inl f | .inr q => .inr (r.2 :: q)) else .inl (tB σ r.1)
def runL (τ : Sg) : List (Nat × List Nat) → Sg
  | [] => τ
  | x :: xs => runL (doL τ x.1 x.2) xs
def a_fault (σ : Sg) : Int32 := match rRun σ 12 σ 0 with
  | .inl f => nI f
  | .inr _ => -1
def a_shore (σ : Sg) : Int32 := match rRun σ 12 σ 0 with
  | .inl _ => -4
  | .inr r => nI r.length
def orM (v : Nat → Nat) : Nat → Nat
  | 0 => 0
  | n + 1 => orM v n ||| v n * 2 ^ n
def day (τ : Sg) : Sg := su_kp (su_rn (su_cr (su_la (su_of (su_mo (su_ov (su_ln τ 0) (orM (fun t => s_th τ (6 * t + 2)) (s_n τ))) (orM (fun f => s_fe τ (5 * f + 2)) (s_m τ))) 0) false) 0) 0) (updB (updB (s_kp τ) 0 false) 1 false)
def n_shore (σ : Sg) : Sg := match rRun σ 12 σ 0 with
  | .inl _ => σ
  | .inr r => day (runL σ r)
/-- a line that may be carried out -/
def okL (τ : Sg) (k : Nat) (l : List Nat) : Prop := k < 11 ∧ (k < 4 → s_n τ < 8 ∧ ∃ a b, l = [a, b] ∧ 1 ≤ a ∧ a ≤ 99 ∧ b ≤ 1) ∧ (4 ≤ k → k < 7 → s_m τ < 3 ∧ ∃ a b c d, l = [a, b, c, d] ∧ 1 ≤ a ∧ a ≤ 999 ∧ b ≤ 1 ∧ 1 ≤ c ∧ c ≤ 8 ∧ 1 ≤ d ∧ d ≤ 9) ∧ (k = 7 → l = []) ∧ (k = 8 → ∃ a b, l = [a, b] ∧ a < s_n τ ∧ s_th τ (6 * a) < 2 ∧ b ≤ 9) ∧ (k = 9 → ∃ a b, l = [a, b] ∧ a < s_n τ ∧ b ≤ 9) ∧ (k = 10 → ∃ a, l = [a] ∧ a < s_n τ)
theorem wdN_le (c : Int64) : wdN c ≤ 11 := by unfold wdN; (repeat' split) <;> omega
theorem tC_num {σ : Sg} {o : Nat} (hw : wfS σ) (hp : o ≤ s_ln σ) : tC σ o = -1 ↔ tNum σ o = true := by
  have h1 := tE_le hp
  have h2 := tB_tE σ o
  have hln := hw.2.2.2.2.1
  unfold tC tNum
  by_cases k3 : tK σ o = 3
  · rw [if_pos k3]; exact ⟨fun q => absurd q (by decide), fun q => absurd (of_decide_eq_true q).1 (by omega)⟩
  rw [if_neg k3]
  by_cases k0 : tK σ o = 0
  · rw [if_pos k0]
    refine ⟨fun q => ?_, fun q => absurd (of_decide_eq_true q).1 (by omega)⟩
    exfalso
    have hb : ¬ tB σ o = s_ln σ := fun h => by rw [tK, if_pos h] at k0; cases k0
    have hq : qL (s_tx σ (tB σ o)) = true := by
      rw [tK, if_neg hb] at k0
      cases hc : qL (s_tx σ (tB σ o)) with
      | true => rfl
      | false => rw [hc] at k0; cases hd : qD (s_tx σ (tB σ o)) <;> rw [hd] at k0 <;> cases k0
    have he := (tok_L hb hq).1
    unfold cdI at q
    by_cases hk : tE σ o - tB σ o ≤ 9
    · rw [if_pos hk] at q
      have hc := cdN_lt (tx := s_tx σ) (b := tB σ o) (k := tE σ o - tB σ o) (fun i hi => rn_all (k := 201) (p := tB σ o) _ (by omega) (by show _ < tLe σ (tB σ o); rw [← he]; omega))
      have h3 : 27 ^ (tE σ o - tB σ o) ≤ 27 ^ 9 := Nat.pow_le_pow_right (by decide) hk
      have h4 := congrArg Int64.toInt q
      unfold lN at h4
      rw [Int64.toInt_ofNat_of_lt (by omega)] at h4
      have h5 : (-1 : Int64).toInt = -1 := by decide
      rw [h5] at h4
      omega
    · rw [if_neg hk] at q; exact absurd q (by decide)
  rw [if_neg k0]
  by_cases k1 : tK σ o = 1
  · rw [if_pos k1]
    by_cases hk : 3 < tE σ o - tB σ o
    · rw [if_pos hk]; exact ⟨fun q => absurd q (by decide), fun q => absurd (of_decide_eq_true q).2 (by omega)⟩
    · rw [if_neg hk]; exact ⟨fun _ => decide_eq_true ⟨k1, by omega⟩, fun _ => rfl⟩
  · rw [if_neg k1]
    refine ⟨fun q => ?_, fun q => absurd (of_decide_eq_true q).1 k1⟩
    split at q <;> exact absurd q (by decide)
theorem rNum_t {σ : Sg} {q : Nat → Bool} {qs : List (Nat → Bool)} {o : Nat} (h : (tNum σ o && q (tN σ o)) = true) : rNum σ (q :: qs) o = (match rNum σ qs (tE σ o) with | .inl f => .inl f | .inr r => .inr (r.1, tN σ o :: r.2)) := by rw [rNum, if_pos h]
theorem rNum_f {σ : Sg} {q : Nat → Bool} {qs : List (Nat → Bool)} {o : Nat} (h : (tNum σ o && q (tN σ o)) = false) : rNum σ (q :: qs) o = .inl (tB σ o) := by rw [rNum, if_neg (by rw [h]; decide)]
theorem rNum_le {σ : Sg} : ∀ {qs : List (Nat → Bool)} {o : Nat} {r : Nat × List Nat}, o ≤ s_ln σ → rNum σ qs o = .inr r → r.1 ≤ s_ln σ
  | [], o, r, ho, h => by rw [rNum] at h; cases h; exact ho
  | q :: qs, o, r, ho, h => by
    rw [rNum] at h
    split at h
    · split at h
      · cases h
      · rename_i r' e
        cases h
        exact rNum_le (r := r') (tE_le ho) e
    · cases h
theorem rLine_le {σ τ : Sg} {o : Nat} {r : Nat × Nat × List Nat} (ho : o ≤ s_ln σ) (h : rLine σ τ o = .inr r) : r.1 ≤ s_ln σ := by
  unfold rLine at h
  split at h
  · cases h
  · split at h
    · cases h
    · rename_i r' e
      cases h
      exact rNum_le (tE_le ho) e
theorem rNum_c {σ : Sg} {q : Nat → Bool} {qs : List (Nat → Bool)} {o : Nat} {r : Nat × List Nat} (h : rNum σ (q :: qs) o = .inr r) : ∃ l, r.2 = tN σ o :: l ∧ q (tN σ o) = true ∧ rNum σ qs (tE σ o) = .inr (r.1, l) := by
  rw [rNum] at h
  split at h
  · rename_i hc
    split at h
    · cases h
    · rename_i r' e
      cases h
      exact ⟨r'.2, rfl, by rw [Bool.and_eq_true] at hc; exact hc.2, e⟩
  · cases h
theorem rNum_n {σ : Sg} {o : Nat} {r : Nat × List Nat} (h : rNum σ [] o = .inr r) : r.2 = [] := by rw [rNum] at h; cases h; rfl
theorem rNum_2 {σ : Sg} {q1 q2 : Nat → Bool} {o : Nat} {r : Nat × List Nat} (h : rNum σ [q1, q2] o = .inr r) : ∃ a b, r.2 = [a, b] ∧ q1 a = true ∧ q2 b = true := by
  obtain ⟨l1, e1, h1, h⟩ := rNum_c h
  obtain ⟨l2, e2, h2, h⟩ := rNum_c h
  exact ⟨_, _, by rw [e1]; rw [show l1 = _ from e2, show l2 = [] from rNum_n h], h1, h2⟩
theorem rNum_1 {σ : Sg} {q1 : Nat → Bool} {o : Nat} {r : Nat × List Nat} (h : rNum σ [q1] o = .inr r) : ∃ a, r.2 = [a] ∧ q1 a = true := by
  obtain ⟨l1, e1, h1, h⟩ := rNum_c h
  exact ⟨_, by rw [e1, show l1 = [] from rNum_n h], h1⟩
theorem rNum_4 {σ : Sg} {q1 q2 q3 q4 : Nat → Bool} {o : Nat} {r : Nat × List Nat} (h : rNum σ [q1, q2, q3, q4] o = .inr r) : ∃ a b c d, r.2 = [a, b, c, d] ∧ q1 a = true ∧ q2 b = true ∧ q3 c = true ∧ q4 d = true := by
  obtain ⟨l1, e1, h1, h⟩ := rNum_c h
  obtain ⟨l2, e2, h2, h⟩ := rNum_c h
  obtain ⟨l3, e3, h3, h⟩ := rNum_c h
  obtain ⟨l4, e4, h4, h⟩ := rNum_c h
  exact ⟨_, _, _, _, by rw [e1, show l1 = _ from e2, show l2 = _ from e3, show l3 = _ from e4, show l4 = [] from rNum_n h], h1, h2, h3, h4⟩
theorem rLine_ok {σ τ : Sg} {o : Nat} {r : Nat × Nat × List Nat} (h1 : s_n τ ≤ 8) (h2 : s_m τ ≤ 3) (h : rLine σ τ o = .inr r) : okL τ r.2.1 r.2.2 := by
  unfold rLine at h
  split at h
  · cases h
  · rename_i hc
    split at h
    · cases h
    · rename_i r' e
      cases h
      have hk := wdN_le (tC σ o)
      dsimp only
      generalize wdN (tC σ o) = k at hc e hk
      have hk1 : ¬ k = 11 := fun q => hc (Or.inl q)
      have hm : tooM τ k = false := by cases hh : tooM τ k with
        | false => rfl
        | true => exact absurd (Or.inr hh) hc
      unfold tooM at hm
      rw [Bool.or_eq_false_iff] at hm
      have hm1 : k < 4 → ¬ s_n τ = 8 := fun q => by have := hm.1; rw [decide_eq_true q, Bool.true_and] at this; exact of_decide_eq_false this
      have hm2 : 4 ≤ k → k < 7 → ¬ s_m τ = 3 := fun q q' => by have := hm.2; rw [decide_eq_true ⟨q, q'⟩, Bool.true_and] at this; exact of_decide_eq_false this
      refine ⟨by omega, fun q => ⟨by have := hm1 q; omega, ?_⟩, fun q q' => ⟨by have := hm2 q q'; omega, ?_⟩, fun q => ?_, fun q => ?_, fun q => ?_, fun q => ?_⟩
      · have e' : rNum σ [inB 1 99, inB 0 1] (tE σ o) = .inr r' := by
          rcases (show k = 0 ∨ k = 1 ∨ k = 2 ∨ k = 3 by omega) with rfl | rfl | rfl | rfl <;> exact e
        obtain ⟨a, b, e1, h3, h4⟩ := rNum_2 e'
        have h3 := of_decide_eq_true h3
        have h4 := of_decide_eq_true h4
        exact ⟨a, b, e1, by omega, by omega, by omega⟩
      · have e' : rNum σ [inB 1 999, inB 0 1, inB 1 8, inB 1 9] (tE σ o) = .inr r' := by
          rcases (show k = 4 ∨ k = 5 ∨ k = 6 by omega) with rfl | rfl | rfl <;> exact e
        obtain ⟨a, b, c, d, e1, h3, h4, h5, h6⟩ := rNum_4 e'
        have h3 := of_decide_eq_true h3
        have h4 := of_decide_eq_true h4
        have h5 := of_decide_eq_true h5
        have h6 := of_decide_eq_true h6
        exact ⟨a, b, c, d, e1, by omega, by omega, by omega, by omega, by omega, by omega, by omega⟩
      · subst q; exact rNum_n e
      · subst q
        obtain ⟨a, b, e1, h3, h4⟩ := rNum_2 e
        have h4 := of_decide_eq_true h4
        rw [Bool.and_eq_true] at h3
        exact ⟨a, b, e1, of_decide_eq_true h3.1, of_decide_eq_true h3.2, by omega⟩
      · subst q
        obtain ⟨a, b, e1, h3, h4⟩ := rNum_2 e
        have h4 := of_decide_eq_true h4
        exact ⟨a, b, e1, of_decide_eq_true h3, by omega⟩
      · subst q
        obtain ⟨a, e1, h3⟩ := rNum_1 e
        exact ⟨a, e1, of_decide_eq_true h3⟩
