/-- how many have been taken from the queues -/
def zSum (Z : Ss) : Nat := z_hd Z 0 + z_hd Z 1 + z_hd Z 2
theorem zSum_hd {Z : Ss} {q v : Nat} (hq : q < 3) (hv : v = z_hd Z q + 1) : zSum (zHd Z q v) = zSum Z + 1 := by
  unfold zSum
  show updN (z_hd Z) q v 0 + updN (z_hd Z) q v 1 + updN (z_hd Z) q v 2 = _
  rcases (show q = 0 ∨ q = 1 ∨ q = 2 by omega) with rfl | rfl | rfl
  · rw [updN_at, updN_ne _ _ (by decide), updN_ne _ _ (by decide)]; omega
  · rw [updN_ne _ _ (by decide), updN_at, updN_ne _ _ (by decide)]; omega
  · rw [updN_ne _ _ (by decide), updN_ne _ _ (by decide), updN_at]; omega
theorem zSum_sp (σ : Sg) (s f q pr : Nat) (Z : Ss) (x : Nat) : zSum (spX σ s f q pr Z x) = zSum Z := by unfold zSum; rw [spX_hd]
theorem q_end {σ : Sg} {goal : Nat → Bool} {Z : Ss} {P : Nat → Bool} {cur : Nat} {pp : Nat → Nat} {R : Nat → Nat → Nat → Prop} (h : qI σ goal Z P cur pp R) (hs : 6144 + 6144 ≤ zSum Z) : ∀ q, q < 3 → z_tl Z q ≤ z_hd Z q := by
  have g := h.2.2.2.2.2.2.1
  have g0 := g 0 (by omega)
  have g1 := g 1 (by omega)
  have g2 := g 2 (by omega)
  unfold zSum at hs
  intro q hq
  rcases (show q = 0 ∨ q = 1 ∨ q = 2 by omega) with rfl | rfl | rfl <;> omega
theorem wz_soon {Z : Ss} (J : Js) (fi fc : Nat → Nat) (v : Nat) : j_co (ju_tl (ju_hd (ju_wa (ju_cb (ju_co (ju_fc (ju_fi J (nf fi)) (nf fc)) (nf (z_co Z))) (nf (z_cb Z))) (nf (z_wa Z))) (nf (z_hd Z))) (nf (z_tl Z))) v = nI (z_co Z v) := by
  dsimp only [ju_tl, ju_hd, ju_wa, ju_cb, ju_co, ju_fc, ju_fi, j_co]
  rfl
