/-! the class's words and the reference's codes -/
theorem cdN_congr {tx ty : Nat → Nat} {b c : Nat} : ∀ {k : Nat}, (∀ j, j < k → tx (b + j) = ty (c + j)) → cdN tx b k = cdN ty c k
  | 0, _ => rfl
  | k + 1, h => by rw [cdN, cdN, cdN_congr (fun j hj => h j (by omega)), h k (by omega)]
theorem cdN_inj {tx ty : Nat → Nat} {b c : Nat} : ∀ {m n : Nat}, (∀ i, i < m → qL (tx (b + i)) = true) → (∀ i, i < n → qL (ty (c + i)) = true) → cdN tx b m = cdN ty c n → m = n ∧ ∀ j, j < m → tx (b + j) = ty (c + j)
  | 0, 0, _, _, _ => ⟨rfl, fun j hj => absurd hj (by omega)⟩
  | 0, n + 1, _, h2, h => by
    have h3 := of_decide_eq_true (h2 n (by omega))
    rw [cdN, cdN] at h
    omega
  | m + 1, 0, h1, _, h => by
    have h3 := of_decide_eq_true (h1 m (by omega))
    rw [cdN, cdN] at h
    omega
  | m + 1, n + 1, h1, h2, h => by
    have h3 := of_decide_eq_true (h1 m (by omega))
    have h4 := of_decide_eq_true (h2 n (by omega))
    rw [cdN, cdN] at h
    have h5 : cdN tx b m = cdN ty c n := by omega
    obtain ⟨e, h6⟩ := cdN_inj (fun i hi => h1 i (by omega)) (fun i hi => h2 i (by omega)) h5
    subst e
    refine ⟨rfl, fun j hj => ?_⟩
    rcases (show j < m ∨ j = m by omega) with q | rfl
    · exact h6 j q
    · omega
theorem spR_iff {tx : Nat → Nat} {b i : Nat} : ∀ {k j : Nat}, spR tx b i k j = true ↔ ∀ x, j ≤ x → x < j + k → bn_ i x = tx (b + x)
  | 0, j => ⟨fun _ x h1 h2 => absurd h2 (by omega), fun _ => rfl⟩
  | k + 1, j => by
    rw [spR]
    by_cases c : bn_ i j = tx (b + j)
    · rw [if_pos c, spR_iff]
      constructor
      · intro h x h1 h2
        rcases (show x = j ∨ j + 1 ≤ x by omega) with rfl | q
        · exact c
        · exact h x q (by omega)
      · intro h x h1 h2
        exact h x (by omega) (by omega)
    · rw [if_neg c]
      exact ⟨fun h => (by cases h), fun h => absurd (h j (Nat.le_refl _) (by omega)) c⟩
def wcdL : List Nat := [232608281, 1758676, 1162559, 10502357, 3130427, 6683990, 8059585273, 10266269, 5879, 459791, 309156998]
def wcd (k : Nat) : Nat := wcdL.getD k 0
theorem wd_inv (c : Int64) : wdN c = 11 ∨ (wdN c < 11 ∧ c = lN (wcd (wdN c))) := by
  unfold wdN
  by_cases h0 : c = 232608281
  · subst h0; exact Or.inr (by decide)
  rw [if_neg h0]
  by_cases h1 : c = 1758676
  · subst h1; exact Or.inr (by decide)
  rw [if_neg h1]
  by_cases h2 : c = 1162559
  · subst h2; exact Or.inr (by decide)
  rw [if_neg h2]
  by_cases h3 : c = 10502357
  · subst h3; exact Or.inr (by decide)
  rw [if_neg h3]
  by_cases h4 : c = 3130427
  · subst h4; exact Or.inr (by decide)
  rw [if_neg h4]
  by_cases h5 : c = 6683990
  · subst h5; exact Or.inr (by decide)
  rw [if_neg h5]
  by_cases h6 : c = 8059585273
  · subst h6; exact Or.inr (by decide)
  rw [if_neg h6]
  by_cases h7 : c = 10266269
  · subst h7; exact Or.inr (by decide)
  rw [if_neg h7]
  by_cases h8 : c = 5879
  · subst h8; exact Or.inr (by decide)
  rw [if_neg h8]
  by_cases h9 : c = 459791
  · subst h9; exact Or.inr (by decide)
  rw [if_neg h9]
  by_cases h10 : c = 309156998
  · subst h10; exact Or.inr (by decide)
  rw [if_neg h10]
  exact Or.inl rfl
theorem w_cd : ∀ i, i < 11 → cdN (bn_ (wsp i)) 0 (ln_ (wsp i)) = wcd (wo i) := by decide +kernel
theorem w_wd : ∀ i, i < 11 → wdN (lN (wcd (wo i))) = wo i := by decide +kernel
theorem w_ln : ∀ i, i < 11 → 3 ≤ ln_ (wsp i) ∧ ln_ (wsp i) ≤ 9 := by decide +kernel
theorem w_let : ∀ i, i < 11 → ∀ j, j < 9 → j < ln_ (wsp i) → qL (bn_ (wsp i) j) = true := by decide +kernel
theorem w_wo : ∀ i, i < 11 → wo i < 11 := by decide
theorem w_ow : ∀ k, k < 11 → ow k < 11 ∧ wo (ow k) = k := by decide
theorem w_neg : ∀ i, i < 11 → lN (wcd (wo i)) ≠ -1 ∧ lN (wcd (wo i)) ≠ -2 ∧ lN (wcd (wo i)) ≠ -3 ∧ lN (wcd (wo i)) ≠ -4 := by decide +kernel
theorem w_lt : ∀ i, i < 11 → wcd (wo i) < 2 ^ 62 := by decide +kernel
theorem lN_inj {a b : Nat} (ha : a < 2 ^ 62) (hb : b < 2 ^ 62) (h : lN a = lN b) : a = b := by
  have h4 := congrArg Int64.toInt h
  unfold lN at h4
  rw [Int64.toInt_ofNat_of_lt (by omega), Int64.toInt_ofNat_of_lt (by omega)] at h4
  omega
theorem lN_nn {a : Nat} (ha : a < 2 ^ 62) : lN a ≠ -1 ∧ lN a ≠ -2 ∧ lN a ≠ -3 ∧ lN a ≠ -4 := by
  have h : (lN a).toInt = (a : Int) := by unfold lN; rw [Int64.toInt_ofNat_of_lt (by omega)]
  refine ⟨fun q => ?_, fun q => ?_, fun q => ?_, fun q => ?_⟩
  · rw [q, show (-1 : Int64).toInt = -1 by decide] at h; omega
  · rw [q, show (-2 : Int64).toInt = -2 by decide] at h; omega
  · rw [q, show (-3 : Int64).toInt = -3 by decide] at h; omega
  · rw [q, show (-4 : Int64).toInt = -4 by decide] at h; omega
theorem tK0 {σ : Sg} {o : Nat} (h : tK σ o = 0) : tB σ o ≠ s_ln σ ∧ qL (s_tx σ (tB σ o)) = true ∧ tE σ o = tLe σ (tB σ o) := by
  have hb : ¬ tB σ o = s_ln σ := fun q => by rw [tK, if_pos q] at h; cases h
  have hq : qL (s_tx σ (tB σ o)) = true := by
    rw [tK, if_neg hb] at h
    cases hc : qL (s_tx σ (tB σ o)) with
    | true => rfl
    | false => rw [hc] at h; cases hd : qD (s_tx σ (tB σ o)) <;> rw [hd] at h <;> cases h
  exact ⟨hb, hq, (tok_L hb hq).1⟩
theorem tL_all {σ : Sg} {o : Nat} (h : tK σ o = 0) : ∀ i, i < tE σ o - tB σ o → qL (s_tx σ (tB σ o + i)) = true := fun i hi => by
  have h1 := tK0 h
  exact rn_all (k := 201) (p := tB σ o) _ (by omega) (by show _ < tLe σ (tB σ o); rw [← h1.2.2]; omega)
theorem tC_0 {σ : Sg} {o : Nat} (h : tK σ o = 0) : (tC σ o = -4 ∧ 9 < tE σ o - tB σ o) ∨ (tE σ o - tB σ o ≤ 9 ∧ tC σ o = lN (cdN (s_tx σ) (tB σ o) (tE σ o - tB σ o)) ∧ cdN (s_tx σ) (tB σ o) (tE σ o - tB σ o) < 2 ^ 62) := by
  rw [tC, if_neg (by omega), if_pos h, cdI]
  by_cases c : tE σ o - tB σ o ≤ 9
  · rw [if_pos c]
    have h1 := cdN_lt (tL_all h)
    have h2 : 27 ^ (tE σ o - tB σ o) ≤ 27 ^ 9 := Nat.pow_le_pow_right (by decide) c
    exact Or.inr ⟨c, rfl, by omega⟩
  · rw [if_neg c]
    exact Or.inl ⟨rfl, by omega⟩
theorem tC_1 {σ : Sg} {o : Nat} (h : tK σ o = 1) : tC σ o = -4 ∨ tC σ o = -1 := by
  rw [tC, if_neg (by omega), if_neg (by omega), if_pos h]
  split
  · exact Or.inl rfl
  · exact Or.inr rfl
theorem tK_le (σ : Sg) (o : Nat) : tK σ o ≤ 3 := by unfold tK; (repeat' split) <;> omega
theorem tC_m2 {σ : Sg} {o : Nat} : tC σ o = -2 ↔ tK σ o = 3 := by
  have hk := tK_le σ o
  constructor
  · intro q
    rcases (show tK σ o = 0 ∨ tK σ o = 1 ∨ tK σ o = 2 ∨ tK σ o = 3 by omega) with h | h | h | h
    · rcases tC_0 h with z | z
      · rw [z.1] at q; exact absurd q (by decide)
      · rw [z.2.1] at q; exact absurd q (lN_nn z.2.2).2.1
    · rcases tC_1 h with z | z <;> rw [z] at q <;> exact absurd q (by decide)
    · rw [tC, if_neg (by omega), if_neg (by omega), if_neg (by omega)] at q
      split at q <;> exact absurd q (by decide)
    · exact h
  · intro h; rw [tC, if_pos h]
theorem tC_m3 {σ : Sg} {o : Nat} (h3 : tK σ o ≠ 3) : tC σ o = -3 ↔ s_tx σ (tB σ o) = 59 := by
  have hk := tK_le σ o
  have hb : ¬ tB σ o = s_ln σ := fun q => h3 (by rw [tK, if_pos q])
  constructor
  · intro q
    rcases (show tK σ o = 0 ∨ tK σ o = 1 ∨ tK σ o = 2 by omega) with h | h | h
    · rcases tC_0 h with z | z
      · rw [z.1] at q; exact absurd q (by decide)
      · rw [z.2.1] at q; exact absurd q (lN_nn z.2.2).2.2.1
    · rcases tC_1 h with z | z <;> rw [z] at q <;> exact absurd q (by decide)
    · rw [tC, if_neg (by omega), if_neg (by omega), if_neg (by omega)] at q
      split at q
      · assumption
      · exact absurd q (by decide)
  · intro q
    have h1 : qL (s_tx σ (tB σ o)) = false := by rw [q]; decide
    have h2 : qD (s_tx σ (tB σ o)) = false := by rw [q]; decide
    rw [(tok_O hb h1 h2).2.1, if_pos q]
theorem sp_wd {σ : Sg} {o i : Nat} (hi : i < 11) : spB σ o (wsp i) = true ↔ wdN (tC σ o) = wo i := by
  have hL := w_ln i hi
  constructor
  · intro h
    unfold spB at h
    by_cases c : tE σ o - tB σ o = ln_ (wsp i)
    · rw [if_pos c, spR_iff] at h
      have hb : ¬ tB σ o = s_ln σ := fun q => by have := (tok_end q).1; omega
      have hq : qL (s_tx σ (tB σ o)) = true := by
        have h1 := w_let i hi 0 (by decide) (by omega)
        rw [h 0 (Nat.le_refl _) (by omega)] at h1
        exact h1
      have hk : tK σ o = 0 := by rw [tK, if_neg hb, if_pos hq]
      rcases tC_0 hk with z | z
      · omega
      · rw [z.2.1, c, cdN_congr (ty := bn_ (wsp i)) (c := 0) (fun j hj => by rw [Nat.zero_add]; exact (h j (Nat.zero_le _) (by omega)).symm), w_cd i hi, w_wd i hi]
    · rw [if_neg c] at h; cases h
  · intro h
    have hwo := w_wo i hi
    have hc : tC σ o = lN (wcd (wo i)) := by
      rcases wd_inv (tC σ o) with z | z
      · omega
      · rw [h] at z; exact z.2
    have hn := w_neg i hi
    have hk := tK_le σ o
    have hk0 : tK σ o = 0 := by
      rcases (show tK σ o = 0 ∨ tK σ o = 1 ∨ tK σ o = 2 ∨ tK σ o = 3 by omega) with q | q | q | q
      · exact q
      · rcases tC_1 q with z | z <;> rw [hc] at z
        · exact absurd z hn.2.2.2
        · exact absurd z hn.1
      · exfalso
        rw [tC, if_neg (by omega), if_neg (by omega), if_neg (by omega)] at hc
        split at hc
        · exact hn.2.2.1 hc.symm
        · exact hn.2.2.2 hc.symm
      · exfalso
        rw [tC_m2.mpr q] at hc
        exact hn.2.1 hc.symm
    rcases tC_0 hk0 with z | z
    · rw [hc] at z; exact absurd z.1 hn.2.2.2
    · rw [hc] at z
      have e := lN_inj (w_lt i hi) z.2.2 z.2.1
      rw [← w_cd i hi] at e
      obtain ⟨e1, e2⟩ := cdN_inj (tx := bn_ (wsp i)) (b := 0) (fun j hj => by rw [Nat.zero_add]; exact w_let i hi j (by omega) hj) (tL_all hk0) e
      rw [spB, if_pos e1.symm, spR_iff]
      intro x h1 h2
      have := e2 x (by omega)
      rw [Nat.zero_add] at this
      exact this
theorem fwF_some {σ : Sg} {o i : Nat} : ∀ {k j : Nat}, fwF σ o k j = some i → j ≤ i ∧ i < j + k ∧ spB σ o (wsp i) = true
  | 0, j, h => by cases h
  | k + 1, j, h => by
    rw [fwF] at h
    by_cases c : spB σ o (wsp j) = true
    · rw [if_pos c] at h; cases h; exact ⟨Nat.le_refl _, by omega, c⟩
    · rw [if_neg c] at h
      have := fwF_some h
      exact ⟨by omega, by omega, this.2.2⟩
theorem fwF_none {σ : Sg} {o : Nat} : ∀ {k j : Nat}, fwF σ o k j = none → ∀ i, j ≤ i → i < j + k → ¬ spB σ o (wsp i) = true
  | 0, j, _, i, h1, h2 => absurd h2 (by omega)
  | k + 1, j, h, i, h1, h2 => by
    rw [fwF] at h
    by_cases c : spB σ o (wsp j) = true
    · rw [if_pos c] at h; cases h
    · rw [if_neg c] at h
      rcases (show i = j ∨ j + 1 ≤ i by omega) with rfl | q
      · exact c
      · exact fwF_none h i q (by omega)
theorem fw_some {σ : Sg} {o i : Nat} (h : fwO σ o = some i) : i < 11 ∧ wdN (tC σ o) = wo i := by
  have h1 := fwF_some h
  exact ⟨by omega, (sp_wd (by omega)).mp h1.2.2⟩
theorem fw_none {σ : Sg} {o : Nat} (h : fwO σ o = none) : wdN (tC σ o) = 11 := by
  have h1 := wdN_le (tC σ o)
  rcases (show wdN (tC σ o) = 11 ∨ wdN (tC σ o) < 11 by omega) with q | q
  · exact q
  · have h2 := w_ow _ q
    exact absurd ((sp_wd h2.1).mpr h2.2.symm) (fwF_none h _ (Nat.zero_le _) (by omega))
theorem nh_le {σ : Sg} {o : Nat} : ∀ v, nhO σ o = some v → v ≤ 999 := by
  intro v h
  rw [nhO] at h
  by_cases c : tNum σ o = true
  · rw [if_pos c] at h
    cases h
    have hk := (of_decide_eq_true c).1
    have h1 := tK1 hk
    rw [h1.2.2]
    exact nmN_999 (fun i hi => rn_all (k := 201) (p := tB σ o) _ (by omega) (by show _ < tDe σ (tB σ o); rw [← h1.2.1]; omega))
  · rw [if_neg c] at h; cases h
theorem sl_c {i j : Nat} (hi : i < 11) (hj : j < ln_ (wsl i)) : bn_ (wsl i) j = 87 ∨ bn_ (wsl i) j = 66 ∨ bn_ (wsl i) j = 80 ∨ bn_ (wsl i) j = 86 ∨ bn_ (wsl i) j = 78 ∨ bn_ (wsl i) j = 82 ∨ bn_ (wsl i) j = 77 ∨ bn_ (wsl i) j = 84 ∨ bn_ (wsl i) j = 72 := by
  have hh : ∀ i, i < 11 → ∀ j, j < 8 → j < ln_ (wsl i) → bn_ (wsl i) j ∈ [87, 66, 80, 86, 78, 82, 77, 84, 72] := by decide +kernel
  have h := hh i hi j (by have := ln_9 (wsl_lt hi); omega) hj
  simp only [List.mem_cons, List.not_mem_nil, or_false] at h
  exact h
theorem sl_4 {i : Nat} (hi : i < 11) : ln_ (wsl i) ≤ 4 := by
  have hh : ∀ i, i < 11 → ln_ (wsl i) ≤ 4 := by decide
  exact hh i hi
theorem slo_drop {τ : Sg} {i j : Nat} (hi : i < 11) (hj : j < ln_ (wsl i)) : (slo τ (wo i)).drop j = slC τ (bn_ (wsl i) j) :: (slo τ (wo i)).drop (j + 1) := by
  have h4 := sl_4 hi
  rcases (show i = 0 ∨ i = 1 ∨ i = 2 ∨ i = 3 ∨ i = 4 ∨ i = 5 ∨ i = 6 ∨ i = 7 ∨ i = 8 ∨ i = 9 ∨ i = 10 by omega) with rfl | rfl | rfl | rfl | rfl | rfl | rfl | rfl | rfl | rfl | rfl <;> rcases (show j = 0 ∨ j = 1 ∨ j = 2 ∨ j = 3 by omega) with rfl | rfl | rfl | rfl <;> first | rfl | exact absurd hj (by decide)
theorem slo_end {τ : Sg} {i : Nat} (hi : i < 11) : (slo τ (wo i)).drop (ln_ (wsl i)) = [] := by
  rcases (show i = 0 ∨ i = 1 ∨ i = 2 ∨ i = 3 ∨ i = 4 ∨ i = 5 ∨ i = 6 ∨ i = 7 ∨ i = 8 ∨ i = 9 ∨ i = 10 by omega) with rfl | rfl | rfl | rfl | rfl | rfl | rfl | rfl | rfl | rfl | rfl <;> rfl
theorem cs_num {σ τ : Sg} {c o : Nat} : csB τ c (nhO σ o) = (tNum σ o && slC τ c (tN σ o)) := by
  rw [nhO]
  cases h : tNum σ o with
  | true => rfl
  | false => rfl
theorem cs_some {σ τ : Sg} {c o : Nat} (h : csB τ c (nhO σ o) = true) : nhO σ o = some (tN σ o) := by
  rw [nhO]
  cases hn : tNum σ o with
  | true => rfl
  | false => rw [cs_num, hn] at h; cases h
