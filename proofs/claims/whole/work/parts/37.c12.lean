theorem and_255 (s : Nat) : s &&& 255 = s % 256 := Nat.and_two_pow_sub_one_eq_mod s 8
/-- the class's rows say what B says -/
def raC (B : Bf) (Z : Ss) : Prop := (∀ v, v < 2048 → z_co Z v = (match b_d B v with | none => 1048576 | some k => k)) ∧ (∀ v k, b_d B v = some (k + 1) → z_cb Z v = b_w B v) ∧ (∀ j, j < b_l B → z_wa Z j = b_q B j) ∧ z_tl Z 0 = b_l B ∧ (z_hd Z 1 = 2048 ∧ z_tl Z 1 = 2048) ∧ (z_hd Z 2 = 4096 ∧ z_tl Z 2 = 4096)
theorem raC_some {B : Bf} {Z : Ss} (h : raC B Z) {v k : Nat} (hv : v < 2048) (hd : b_d B v = some k) : z_co Z v = k := by rw [h.1 v hv, hd]
theorem raC_none {B : Bf} {Z : Ss} (h : raC B Z) {v : Nat} (hv : v < 2048) (hd : b_d B v = none) : z_co Z v = 1048576 := by rw [h.1 v hv, hd]
theorem raC_ok {B : Bf} {Z : Ss} (hB : bInv B) (h : raC B Z) : zOk Z := by
  refine ⟨fun v hv => ?_, fun q hq => ?_⟩
  · cases hd : b_d B v with
    | none => rw [raC_none h hv hd]; exact Nat.le_refl _
    | some k => rw [raC_some h hv hd]; have := bd_lt hB hd; omega
  · rcases (show q = 0 ∨ q = 1 ∨ q = 2 by omega) with rfl | rfl | rfl
    · rw [h.2.2.2.1]; have := hB.1; omega
    · rw [h.2.2.2.2.1.2]; decide
    · rw [h.2.2.2.2.2.2]; decide
/-- all that is seen is at most one further than da -/
def bTop (B : Bf) (da : Nat) : Prop := ∀ v k, b_d B v = some k → k ≤ da + 1
theorem raC_try {σ : Sg} {B : Bf} {Z : Ss} {s da f x i : Nat} (hB : bInv B) (h : raC B Z) (hT : bTop B da) (hs : s < 2048) (hd : b_d B s = some da) (hf : f < 3) (hx : x < 256) : raC (tryE σ s da f x B) (if edge σ s f x = true then rcF (stp s f x) (256 * f + x) (z_co Z s + 1) 0 Z else Z) ∧ bTop (tryE σ s da f x B) da := by
  have hv := stp_lt hs hf hx
  unfold tryE
  by_cases he : edge σ s f x = true
  · rw [if_pos he, raC_some h hs hd]
    cases hn : b_d B (stp s f x) with
    | none =>
      have hroom := push_room hB hv hn
      have hda := bd_lt hB hd
      rw [if_pos ⟨rfl, he⟩, rcF, if_pos (by rw [raC_none h hv hn, h.2.2.2.1]; omega)]
      refine ⟨⟨fun v hv2 => ?_, fun v k hk => ?_, fun j hj => ?_, ?_, h.2.2.2.2.1, h.2.2.2.2.2⟩, fun v k hk => ?_⟩
      · show updN _ _ _ v = (match updO _ _ _ v with | none => 1048576 | some k => k)
        unfold updN updO
        by_cases e : v = stp s f x
        · rw [if_pos e, if_pos e]
        · rw [if_neg e, if_neg e]; exact h.1 v hv2
      · have hk : updO (b_d B) (stp s f x) (some (da + 1)) v = some (k + 1) := hk
        show updN _ _ _ v = updN _ _ _ v
        unfold updN
        by_cases e : v = stp s f x
        · rw [if_pos e, if_pos e]
        · rw [if_neg e, if_neg e]
          rw [updO, if_neg e] at hk
          exact h.2.1 v k hk
      · have hj : j < b_l B + 1 := hj
        show updN _ _ _ j = updN _ _ _ j
        unfold updN
        rw [h.2.2.2.1]
        by_cases e : j = b_l B
        · rw [if_pos e, if_pos e]
        · rw [if_neg e, if_neg e]; exact h.2.2.1 j (by omega)
      · show updN (z_tl Z) 0 (z_tl Z 0 + 1) 0 = b_l B + 1
        rw [updN_at, h.2.2.2.1]
      · have hk : updO (b_d B) (stp s f x) (some (da + 1)) v = some k := hk
        unfold updO at hk
        by_cases e : v = stp s f x
        · rw [if_pos e] at hk; have := Option.some.inj hk; omega
        · rw [if_neg e] at hk; exact hT v k hk
    | some k =>
      have := hT _ k hn
      rw [if_neg (fun q => by cases q.1), rcF, if_neg (by rw [raC_some h hv hn]; omega)]
      exact ⟨h, hT⟩
  · rw [if_neg he, if_neg (fun q => he q.2)]; exact ⟨h, hT⟩
theorem raC_expX {σ : Sg} {B : Bf} {Z : Ss} {s da f i : Nat} (hB : bInv B) (h : raC B Z) (hT : bTop B da) (hs : s < 2048) (hd : b_d B s = some da) (hda : da ≤ i) (hi : i < b_l B) (hf : f < 3) : ∀ {x : Nat}, x ≤ 256 → raC (expX σ s da f B x) (spX σ s f 0 1 Z x) ∧ bTop (expX σ s da f B x) da
  | 0, _ => ⟨h, hT⟩
  | x + 1, hx => by
    obtain ⟨h1, h2⟩ := raC_expX hB h hT hs hd hda hi hf (x := x) (by omega)
    obtain ⟨g1, g2, -, -⟩ := expX_inv (σ := σ) hB hs hd hda hi hf (x := x) (by omega)
    exact raC_try (i := i) g1 h1 h2 hs g2 hf (by omega)
theorem rcF_hd (b cr pr q : Nat) (Z : Ss) : z_hd (rcF b cr pr q Z) = z_hd Z := by unfold rcF; split <;> rfl
theorem spX_hd (σ : Sg) (s f q pr : Nat) (Z : Ss) : ∀ x, z_hd (spX σ s f q pr Z x) = z_hd Z
  | 0 => rfl
  | x + 1 => by
    rw [spX]
    split
    · rw [rcF_hd, spX_hd]
    · exact spX_hd σ s f q pr Z x
def zHd (Z : Ss) (q v : Nat) : Ss := (z_co Z, z_cb Z, z_wa Z, updN (z_hd Z) q v, z_tl Z)
/-- the row of those seen goes up -/
def bUp (B : Bf) (i : Nat) : Prop := (∀ j k a b, j ≤ k → k < b_l B → b_d B (b_q B j) = some a → b_d B (b_q B k) = some b → a ≤ b) ∧ ∀ a, i < b_l B → b_d B (b_q B i) = some a → bTop B a
theorem up_try {σ : Sg} {B : Bf} {s da f x i : Nat} (hB : bInv B) (hs : s < 2048) (hd : b_d B s = some da) (hda : da ≤ i) (hi : i < b_l B) (hf : f < 3) (hx : x < 256) (hT : bTop B da) (h : ∀ j k a b, j ≤ k → k < b_l B → b_d B (b_q B j) = some a → b_d B (b_q B k) = some b → a ≤ b) : bTop (tryE σ s da f x B) da ∧ ∀ j k a b, j ≤ k → k < b_l (tryE σ s da f x B) → b_d (tryE σ s da f x B) (b_q (tryE σ s da f x B) j) = some a → b_d (tryE σ s da f x B) (b_q (tryE σ s da f x B) k) = some b → a ≤ b := by
  unfold tryE
  by_cases c : b_d B (stp s f x) = none ∧ edge σ s f x = true
  · rw [if_pos c]
    have hne : ∀ j, j < b_l B → b_q B j ≠ stp s f x := fun j hj e => by
      obtain ⟨-, k, hk, -⟩ := hB.2.1 j hj
      rw [e, c.1] at hk; cases hk
    have hdo : ∀ u, u ≠ stp s f x → b_d (push B s da f x) u = b_d B u := fun u hu => by show updO _ _ _ u = _; rw [updO, if_neg hu]
    have hdn : b_d (push B s da f x) (stp s f x) = some (da + 1) := by show updO _ _ _ _ = _; rw [updO, if_pos rfl]
    have hqo : ∀ j, j < b_l B → b_q (push B s da f x) j = b_q B j := fun j hj => by show updN _ _ _ j = _; rw [updN, if_neg (by omega)]
    have hqn : b_q (push B s da f x) (b_l B) = stp s f x := by show updN _ _ _ _ = _; rw [updN, if_pos rfl]
    refine ⟨fun v k hk => ?_, fun j k a b hjk hk ha hb => ?_⟩
    · by_cases e : v = stp s f x
      · rw [e, hdn] at hk; have := Option.some.inj hk; omega
      · rw [hdo v e] at hk; exact hT v k hk
    · have hk : k < b_l B + 1 := hk
      rcases (show k = b_l B ∨ k < b_l B by omega) with rfl | q
      · rw [hqn, hdn] at hb
        have := Option.some.inj hb
        rcases (show j = b_l B ∨ j < b_l B by omega) with rfl | r
        · rw [hqn, hdn] at ha; have := Option.some.inj ha; omega
        · rw [hqo j r, hdo _ (hne j r)] at ha; have := hT _ _ ha; omega
      · rw [hqo j (by omega), hdo _ (hne j (by omega))] at ha
        rw [hqo k q, hdo _ (hne k q)] at hb
        exact h j k a b hjk q ha hb
  · rw [if_neg c]; exact ⟨hT, h⟩
theorem up_expX {σ : Sg} {B : Bf} {s da f i : Nat} (hB : bInv B) (hs : s < 2048) (hd : b_d B s = some da) (hda : da ≤ i) (hi : i < b_l B) (hf : f < 3) (hT : bTop B da) (h : ∀ j k a b, j ≤ k → k < b_l B → b_d B (b_q B j) = some a → b_d B (b_q B k) = some b → a ≤ b) : ∀ {x : Nat}, x ≤ 256 → bTop (expX σ s da f B x) da ∧ ∀ j k a b, j ≤ k → k < b_l (expX σ s da f B x) → b_d (expX σ s da f B x) (b_q (expX σ s da f B x) j) = some a → b_d (expX σ s da f B x) (b_q (expX σ s da f B x) k) = some b → a ≤ b
  | 0, _ => ⟨hT, h⟩
  | x + 1, hx => by
    obtain ⟨h1, h2⟩ := up_expX hB hs hd hda hi hf hT h (x := x) (by omega)
    obtain ⟨g1, g2, g3, -⟩ := expX_inv (σ := σ) hB hs hd hda hi hf (x := x) (by omega)
    exact up_try g1 hs g2 hda (by omega) hf (by omega) h1 h2
theorem up_expF {σ : Sg} {B : Bf} {s da i : Nat} (hB : bInv B) (hs : s < 2048) (hd : b_d B s = some da) (hda : da ≤ i) (hi : i < b_l B) (hn : 2 ^ s_n σ ≤ 256) (hT : bTop B da) (h : ∀ j k a b, j ≤ k → k < b_l B → b_d B (b_q B j) = some a → b_d B (b_q B k) = some b → a ≤ b) : ∀ {f : Nat}, f ≤ 3 → bTop (expF σ s da B f) da ∧ ∀ j k a b, j ≤ k → k < b_l (expF σ s da B f) → b_d (expF σ s da B f) (b_q (expF σ s da B f) j) = some a → b_d (expF σ s da B f) (b_q (expF σ s da B f) k) = some b → a ≤ b
  | 0, _ => ⟨hT, h⟩
  | f + 1, hf => by
    obtain ⟨h1, h2⟩ := up_expF hB hs hd hda hi hn hT h (f := f) (by omega)
    obtain ⟨g1, g2, g3, -⟩ := expF_inv (σ := σ) hB hs hd hda hi hn (f := f) (by omega)
    exact up_expX g1 hs g2 hda (by omega) (by omega) h1 h2 hn
theorem up_next {σ : Sg} {B : Bf} {i da : Nat} (hB : bInv B) (hU : bUp B i) (hi : i < b_l B) (hd : b_d B (b_q B i) = some da) (hn : 2 ^ s_n σ ≤ 256) (hm : s_m σ ≤ 3) : bUp (expF σ (b_q B i) da B (s_m σ)) (i + 1) := by
  obtain ⟨hs, da', hda', hle⟩ := hB.2.1 i hi
  rw [hd] at hda'
  have e : da = da' := Option.some.inj hda'
  subst e
  obtain ⟨h1, h2⟩ := up_expF (σ := σ) hB hs hd hle hi hn (hU.2 da hi hd) hU.1 hm
  obtain ⟨g1, g2, g3, g4⟩ := expF_inv (σ := σ) hB hs hd hle hi hn hm
  refine ⟨h2, fun a ha hda2 v k hk => ?_⟩
  have := h1 v k hk
  have hq : b_d (expF σ (b_q B i) da B (s_m σ)) (b_q (expF σ (b_q B i) da B (s_m σ)) i) = some da := by rw [g4 i hi]; exact g2
  have := h2 i (i + 1) da a (by omega) ha hq hda2
  omega
theorem raC_hd {B : Bf} {Z : Ss} (h : raC B Z) (v : Nat) : raC B (zHd Z 0 v) := ⟨h.1, h.2.1, h.2.2.1, h.2.2.2.1, ⟨h.2.2.2.2.1.1, h.2.2.2.2.1.2⟩, ⟨h.2.2.2.2.2.1, h.2.2.2.2.2.2⟩⟩
theorem cq_some {B : Bf} {Z : Ss} (h : raC B Z) {i : Nat} (hi : z_hd Z 0 = i) (c : i < b_l B) : lwt (lvP Z) (lvW Z) 3 = some 0 := by
  have h0 : lvP Z 0 = true := decide_eq_true (by rw [hi, h.2.2.2.1]; exact c)
  have h1 : lvP Z 1 = false := decide_eq_false (by rw [h.2.2.2.2.1.1, h.2.2.2.2.1.2]; omega)
  have h2 : lvP Z 2 = false := decide_eq_false (by rw [h.2.2.2.2.2.1, h.2.2.2.2.2.2]; omega)
  rw [lwt, h2, if_neg (by decide), lwt, h1, if_neg (by decide), lwt, h0]; rfl
theorem cq_none {B : Bf} {Z : Ss} (h : raC B Z) {i : Nat} (hi : z_hd Z 0 = i) (c : ¬ i < b_l B) : lwt (lvP Z) (lvW Z) 3 = none := by
  have h0 : lvP Z 0 = false := decide_eq_false (by rw [hi, h.2.2.2.1]; exact c)
  have h1 : lvP Z 1 = false := decide_eq_false (by rw [h.2.2.2.2.1.1, h.2.2.2.2.1.2]; omega)
  have h2 : lvP Z 2 = false := decide_eq_false (by rw [h.2.2.2.2.2.1, h.2.2.2.2.2.2]; omega)
  rw [lwt, h2, if_neg (by decide), lwt, h1, if_neg (by decide), lwt, h0]; rfl
theorem zQ_few {B : Bf} {Z : Ss} (hB : bInv B) (h : raC B Z) {i : Nat} (hi : z_hd Z 0 = i) (hil : i ≤ b_l B) : zQ Z := by
  have hl := hB.1
  intro q hq
  rcases (show q = 0 ∨ q = 1 ∨ q = 2 by omega) with rfl | rfl | rfl
  · refine ⟨by omega, by rw [h.2.2.2.1]; omega, fun c => ?_⟩
    rw [hi, h.2.2.2.1] at c
    obtain ⟨hs, k, hk, -⟩ := hB.2.1 i c
    unfold lvW
    rw [hi, h.2.2.1 i c]
    have := bd_lt hB hk
    exact ⟨hs, by rw [raC_some h hs hk]; omega⟩
  · rw [h.2.2.2.2.1.1, h.2.2.2.2.1.2]; exact ⟨by decide, by decide, fun c => absurd c (by decide)⟩
  · rw [h.2.2.2.2.2.1, h.2.2.2.2.2.2]; exact ⟨by decide, by decide, fun c => absurd c (by decide)⟩
theorem se_eta (J : Js) : ju_tl (ju_hd (ju_wa (ju_cb (ju_co (ju_fc (ju_fi J (j_fi J)) (j_fc J)) (j_co J)) (j_cb J)) (j_wa J)) (j_hd J)) (j_tl J) = J := by
  dsimp only [ju_tl, ju_hd, ju_wa, ju_cb, ju_co, ju_fc, ju_fi, j_lw, j_nb, j_lc, j_fa, j_be, j_en, j_so, j_rt, j_rh, j_rf, j_pe, j_wh, j_us, j_pb, j_hm, j_hs, j_le, j_mw, j_ms, j_ia, j_il, j_fi, j_fc, j_co, j_cb, j_wa, j_hd, j_tl]
theorem se_nf (J : Js) : ∃ fi fc co cb wa hd tl : Nat → Nat, J = ju_tl (ju_hd (ju_wa (ju_cb (ju_co (ju_fc (ju_fi J (nf fi)) (nf fc)) (nf co)) (nf cb)) (nf wa)) (nf hd)) (nf tl) := by
  obtain ⟨fi, h1⟩ := nf_all (j_fi J)
  obtain ⟨fc, h2⟩ := nf_all (j_fc J)
  obtain ⟨co, h3⟩ := nf_all (j_co J)
  obtain ⟨cb, h4⟩ := nf_all (j_cb J)
  obtain ⟨wa, h5⟩ := nf_all (j_wa J)
  obtain ⟨hd, h6⟩ := nf_all (j_hd J)
  obtain ⟨tl, h7⟩ := nf_all (j_tl J)
  refine ⟨fi, fc, co, cb, wa, hd, tl, ?_⟩
  rw [← h1, ← h2, ← h3, ← h4, ← h5, ← h6, ← h7, se_eta]
def ftAll (σ : Sg) (fi fc : Nat → Nat) (f : Nat) : Prop := (∀ g, g < f → ftOk σ fi g (2 ^ s_n σ) ∧ fc g = cntN (isRS σ g) (2 ^ s_n σ)) ∧ ∀ g, f ≤ g → g < 3 → fc g = 0
theorem ftAll_s {σ : Sg} {fi fc g : Nat → Nat} {f : Nat} (h : ftAll σ fi fc f) (hn : 2 ^ s_n σ ≤ 256) (h1 : ftOk σ g f (2 ^ s_n σ)) (h2 : ∀ k, (k < 256 * f ∨ 256 * f + 256 ≤ k) → g k = fi k) : ftAll σ g (updN fc f (cntN (isRS σ f) (2 ^ s_n σ))) (f + 1) := by
  refine ⟨fun e he => ?_, fun e he he3 => by rw [updN_ne _ _ (by omega)]; exact h.2 e (by omega) he3⟩
  rcases (show e = f ∨ e < f by omega) with rfl | q
  · exact ⟨h1, updN_at _ _ _⟩
  · refine ⟨fun y hy cy => ?_, by rw [updN_ne _ _ (by omega)]; exact (h.1 e q).2⟩
    have hc : cntN (isRS σ e) y ≤ y := cntN_le _ _
    rw [h2 _ (Or.inl (by omega))]
    exact (h.1 e q).1 y hy cy
theorem st0_K (σ : Sg) : s_ov σ + 256 * s_mo σ = st0 σ := by unfold st0; omega
theorem raC_0 {σ : Sg} {Z : Ss} (hs : st0 σ < 2048) (hco : ∀ v, v < 2048 → z_co Z v = 1048576) (h0 : z_tl Z 0 = 0) (h1 : z_hd Z 1 = 2048 ∧ z_tl Z 1 = 2048) (h2 : z_hd Z 2 = 4096 ∧ z_tl Z 2 = 4096) : raC (B0 (st0 σ)) (rcF (st0 σ) 4294967295 0 0 Z) := by
  rw [rcF, if_pos (by rw [hco _ hs, h0]; decide)]
  refine ⟨fun v hv => ?_, fun v k hk => ?_, fun j hj => ?_, ?_, ?_, ?_⟩
  · show updN _ _ _ v = (match (if v = st0 σ then some 0 else none) with | none => 1048576 | some k => k)
    unfold updN
    by_cases e : v = st0 σ
    · rw [if_pos e, if_pos e]
    · rw [if_neg e, if_neg e]; exact hco v hv
  · have hk : (if v = st0 σ then some 0 else none) = some (k + 1) := hk
    by_cases e : v = st0 σ
    · rw [if_pos e] at hk; cases hk
    · rw [if_neg e] at hk; cases hk
  · have hj : j < 1 := hj
    show updN (z_wa Z) (z_tl Z 0) (st0 σ) j = st0 σ
    rw [h0, show j = 0 by omega]; rfl
  · show updN (z_tl Z) 0 (z_tl Z 0 + 1) 0 = 1
    rw [updN_at, h0]
  · refine ⟨h1.1, ?_⟩
    show updN (z_tl Z) 0 (z_tl Z 0 + 1) 1 = 2048
    rw [updN_ne _ _ (by decide)]; exact h1.2
  · refine ⟨h2.1, ?_⟩
    show updN (z_tl Z) 0 (z_tl Z 0 + 1) 2 = 4096
    rw [updN_ne _ _ (by decide)]; exact h2.2
theorem up_0 (s : Nat) : bUp (B0 s) 0 := by
  have hd : ∀ v k, b_d (B0 s) v = some k → k = 0 := fun v k hk => by
    have hk : (if v = s then some 0 else none) = some k := hk
    by_cases e : v = s
    · rw [if_pos e] at hk; exact (Option.some.inj hk).symm
    · rw [if_neg e] at hk; cases hk
  exact ⟨fun j k a b _ _ ha _ => by have := hd _ _ ha; omega, fun a _ _ v k hk => by have := hd _ _ hk; omega⟩
def raJ (B : Bf) (u : Js) : Prop := (∀ v, v < 2048 → j_co u v = nI (match b_d B v with | none => 1048576 | some k => k)) ∧ ∀ v k, b_d B v = some (k + 1) → j_cb u v = nI (b_w B v)
theorem raJ_of {B : Bf} {Z : Ss} (h : raC B Z) (J : Js) (fi fc : Nat → Nat) : raJ B (ju_tl (ju_hd (ju_wa (ju_cb (ju_co (ju_fc (ju_fi J (nf fi)) (nf fc)) (nf (z_co Z))) (nf (z_cb Z))) (nf (z_wa Z))) (nf (z_hd Z))) (nf (z_tl Z))) := by
  unfold raJ
  dsimp only [ju_tl, ju_hd, ju_wa, ju_cb, ju_co, ju_fc, ju_fi, j_co, j_cb]
  exact ⟨fun v hv => by rw [nf, h.1 v hv], fun v k hk => by rw [nf, h.2.1 v k hk]⟩
set_option maxHeartbeats 4000000 in
set_option maxRecDepth 100000 in
theorem k_find_few (l : Launch) (D : va_G) (cy : Nat → ClassId) (ad aw : Nat → Nat) (σ : Sg) (J : Js) (sn bk : Nat) (hw : wfS σ) (hj : wfJ σ J) (h1 : sn < 2 ^ s_n σ) (h2 : bk < 2) : MW l yX4_find qX4_find 5 [.ref (ad 11), .int (nI (sn)), .int (nI (bk)), .int (bI (false))] D cy (cw cy ad aw σ J) (fun (r : Int32) (u : Js) => r = oI (fewB σ sn bk).1 ∧ raJ (fewB σ sn bk).2 u ∧ wfJ σ u) (fun u : Js => cw cy ad aw σ u) := by
  intro sz
  refine Met.ofW (cc := cX4_find) (maxL := 8) (ret := (some .int)) (by decide) rfl ?_
  intro p e s m args below meth c s₁ B hml hv
  obtain ⟨rfl, rfl, hP, hK, hN, hD0⟩ := hv
  have hx := B.exec
  have hb := B.bytes
  have hr := B.returns
  have hlocks := B.notSynchronized
  have hts : ∀ cq ∈ tg, cq.before ([.ref (ad 11), .int (nI (sn)), .int (nI (bk)), .int (bI (false))] : List Value).toArray s = true := fun cq h => atoms_spec (ws := qX4_find) B.pre cq (List.mem_cons_of_mem _ h)
  have hown : s.vm.findClass RX4 = some m.cls := findClass_of_methodNamed B.named
  have hD := hD0.self (sz := s.heap.size)
  generalize hAe : va_A (cw cy ad aw σ J) s.heap.size = A at hD ⊢
  have hA : ∀ q : Nat, s.heap.size ≤ q → A q := fun q h => by rw [← hAe]; exact Or.inr h
  have hS : va_S A s.heap s.heap [] := va_S.rf
  have hl := lv_entry ([.ref (ad 11), .int (nI (sn)), .int (nI (bk)), .int (bI (false))]) (n := 8) (Nat.le_of_ble_eq_true rfl)
  rw [lg_entry_eq]
  generalize (lg_sl ([.ref (ad 11), .int (nI (sn)), .int (nI (bk)), .int (bI (false))]) ++ List.replicate (8 - (lg_sl ([.ref (ad 11), .int (nI (sn)), .int (nI (bk)), .int (bI (false))])).length) Slot.unset).toArray = ls at hl ⊢
  have hl : lv_has ls 8 [(0, .ref (ad 11)), (1, .int (nI (sn))), (2, .int (nI (bk))), (3, .int (bI (false)))] := hl
  have hw1 := hw.1
  have hw2 := hw.2.1
  have hp8 := pw_8 hw1
  have hpp := pw_pos (s_n σ)
  have hov := ov_lt hw
  have hmo := mo_lt hw
  have hof := of_lt hw
  have hs0 := st0_lt hw
  obtain ⟨fi, fc, co, cb, wa, hd, tl, hJ⟩ := se_nf J
  have hjn := hj
  rw [hJ] at hP hD hjn
  have hP : va_P D vwCl (cw cy ad aw σ (ju_tl (ju_hd (ju_wa (ju_cb (ju_co (ju_fc (ju_fi J (nf fi)) (nf fc)) (nf co)) (nf cb)) (nf wa)) (nf hd)) (nf tl))) s.heap := hP
  have hD : va_D A (cw cy ad aw σ (ju_tl (ju_hd (ju_wa (ju_cb (ju_co (ju_fc (ju_fi J (nf fi)) (nf fc)) (nf co)) (nf cb)) (nf wa)) (nf hd)) (nf tl))) := hD
  refine lv_aload_n hx hb dX4_find_0 rfl (lv_at hl 0 rfl) ?_
  refine cr_vv (n := 0) (As := []) (rest := []) ⟨hx, hb, hml, hown, hts⟩ (k_X4_clear l D cy ad aw σ J fi fc co cb wa hd tl ) gvX4_37 (by decide +kernel) ⟨Nat.le_of_ble_eq_true rfl, Nat.le_of_ble_eq_true rfl⟩ hK hN hP hD hS hA 11 (cw_c11 cy ad aw σ (ju_tl (ju_hd (ju_wa (ju_cb (ju_co (ju_fc (ju_fi J (nf fi)) (nf fc)) (nf co)) (nf cb)) (nf wa)) (nf hd)) (nf tl))) rfl rfl hl.1 rfl (Nat.le_of_ble_eq_true rfl) dX4_find_1 ⟨Nat.zero_le _, Nat.zero_le _⟩ (fun _ => (cw_ad _ _ _ _ _).trans (cw_ad _ _ _ _ _).symm) (fun u1 H locs hpu1 hP hD hS => ?_)
  have hP : va_P D vwCl (cw cy ad aw σ (ju_tl (ju_hd (ju_wa (ju_cb (ju_co (ju_fc (ju_fi J (nf fi)) (nf (fcC fc 3))) (nf u1)) (nf cb)) (nf wa)) (nf (hdC hd 3))) (nf (hdC tl 3)))) H := hP
  have hD : va_D A (cw cy ad aw σ (ju_tl (ju_hd (ju_wa (ju_cb (ju_co (ju_fc (ju_fi J (nf fi)) (nf (fcC fc 3))) (nf u1)) (nf cb)) (nf wa)) (nf (hdC hd 3))) (nf (hdC tl 3)))) := hD
  obtain ⟨Z0, hZ0⟩ : ∃ z : Ss, z = (u1, cb, wa, hdC hd 3, hdC tl 3) := ⟨_, rfl⟩
  have hz1 : ∀ v, v < 2048 → z_co Z0 v = 1048576 := fun v hv => by rw [hZ0]; exact hpu1 v hv
  have hz2 : z_tl Z0 0 = 0 ∧ z_hd Z0 0 = 0 := by rw [hZ0]; exact ⟨rfl, rfl⟩
  have hz3 : z_hd Z0 1 = 2048 ∧ z_tl Z0 1 = 2048 := by rw [hZ0]; exact ⟨rfl, rfl⟩
  have hz4 : z_hd Z0 2 = 4096 ∧ z_tl Z0 2 = 4096 := by rw [hZ0]; exact ⟨rfl, rfl⟩
  have hft0 : ftAll σ fi (fcC fc 3) 0 := ⟨fun g hg => absurd hg (by omega), fun g _ hg => by unfold fcC; rw [if_pos hg]⟩
  have hP : va_P D vwCl (cw cy ad aw σ (ju_tl (ju_hd (ju_wa (ju_cb (ju_co (ju_fc (ju_fi J (nf fi)) (nf (fcC fc 3))) (nf (z_co Z0))) (nf (z_cb Z0))) (nf (z_wa Z0))) (nf (z_hd Z0))) (nf (z_tl Z0)))) H := by rw [hZ0]; exact hP
  have hD : va_D A (cw cy ad aw σ (ju_tl (ju_hd (ju_wa (ju_cb (ju_co (ju_fc (ju_fi J (nf fi)) (nf (fcC fc 3))) (nf (z_co Z0))) (nf (z_cb Z0))) (nf (z_wa Z0))) (nf (z_hd Z0))) (nf (z_tl Z0)))) := by rw [hZ0]; exact hD
  generalize fcC fc 3 = fd at hP hD hft0
  clear hZ0 hjn hJ
  refine lv_iconst (v := nI 0) hx hb dX4_find_4 (by decide) ?_
  refine lv_istore (lv' := [(4, .int (nI (0))), (0, .ref (ad 11)), (1, .int (nI (sn))), (2, .int (nI (bk))), (3, .int (bI (false)))]) hx hb dX4_find_5 hl (by decide) rfl (fun ls hl => ?_)
  have l0 : ∀ (k_l0 f : Nat) (ls : Array Slot) (H : Heap) (locs : List Loc) (fi_ fc_ : Nat → Nat), f + k_l0 = s_m σ → ftAll σ fi_ fc_ f → va_P D vwCl (cw cy ad aw σ (ju_tl (ju_hd (ju_wa (ju_cb (ju_co (ju_fc (ju_fi J (nf fi_)) (nf fc_)) (nf (z_co Z0))) (nf (z_cb Z0))) (nf (z_wa Z0))) (nf (z_hd Z0))) (nf (z_tl Z0)))) H → va_D A (cw cy ad aw σ (ju_tl (ju_hd (ju_wa (ju_cb (ju_co (ju_fc (ju_fi J (nf fi_)) (nf fc_)) (nf (z_co Z0))) (nf (z_cb Z0))) (nf (z_wa Z0))) (nf (z_hd Z0))) (nf (z_tl Z0)))) → va_S A s.heap H locs → lv_has ls 8 [(4, .int (nI (f))), (0, .ref (ad 11)), (1, .int (nI (sn))), (2, .int (nI (bk))), (3, .int (bI (false)))] → W p l e (headSpec qX4_find (rq 5)).room s m ([.ref (ad 11), .int (nI (sn)), .int (nI (bk)), .int (bI (false))] : List Value).toArray below meth c H locs 0 0 (MQ below (va_Qi (fun (r : Int32) (u : Js) => r = oI (fewB σ sn bk).1 ∧ raJ (fewB σ sn bk).2 u ∧ wfJ σ u) (fun u t => va_P D vwCl ((fun u : Js => cw cy ad aw σ u) u) t.heap) A) ([.ref (ad 11), .int (nI (sn)), .int (nI (bk)), .int (bI (false))] : List Value).toArray s 0 0 A) (F0 m 7 ls []) := by
    intro k_l0
    induction k_l0 with
    | zero =>
      intro f ls H locs fi_ fc_ hi_l0 hft hP hD hS hl
      refine lv_iload hx hb dX4_find_7 (lv_at hl 0 rfl) ?_
      refine lv_aload_n hx hb dX4_find_9 rfl (lv_at hl 1 rfl) ?_
      refine va_get (D := D) (ci := 4) (v := .ref (ad 3)) (C := RX4) (T := TX4) (N := 8) hx hb hts ni4 hown hK hP 11 (cw_c11 cy ad aw σ (ju_tl (ju_hd (ju_wa (ju_cb (ju_co (ju_fc (ju_fi J (nf fi_)) (nf fc_)) (nf (z_co Z0))) (nf (z_cb Z0))) (nf (z_wa Z0))) (nf (z_hd Z0))) (nf (z_tl Z0)))) rfl 0 (by decide) (hts _ flX4_33) (fun _ h => h) rfl dX4_find_10 ?_
      refine va_get (D := D) (ci := 3) (v := .int (nI (s_m σ))) (C := RX3) (T := TX3) (N := 9) hx hb hts ni3 hown hK hP 3 (cw_c3 cy ad aw σ (ju_tl (ju_hd (ju_wa (ju_cb (ju_co (ju_fc (ju_fi J (nf fi_)) (nf fc_)) (nf (z_co Z0))) (nf (z_cb Z0))) (nf (z_wa Z0))) (nf (z_hd Z0))) (nf (z_tl Z0)))) rfl 4 (by decide) (hts _ flX4_40) (fun _ h => h) rfl dX4_find_13 ?_
      refine ln_icmp_ge (tgt := 31) hx hb dX4_find_16 (by decide) (by omega) (by omega) (fun c16 => ?_) (fun c16 => ?_)
      · rw [show f = s_m σ by omega] at hft
        refine lv_aload_n hx hb dX4_find_31 rfl (lv_at hl 1 rfl) ?_
        refine lv_aload_n hx hb dX4_find_32 rfl (lv_at hl 1 rfl) ?_
        refine va_get (D := D) (ci := 4) (v := .ref (ad 3)) (C := RX4) (T := TX4) (N := 8) hx hb hts ni4 hown hK hP 11 (cw_c11 cy ad aw σ (ju_tl (ju_hd (ju_wa (ju_cb (ju_co (ju_fc (ju_fi J (nf fi_)) (nf fc_)) (nf (z_co Z0))) (nf (z_cb Z0))) (nf (z_wa Z0))) (nf (z_hd Z0))) (nf (z_tl Z0)))) rfl 0 (by decide) (hts _ flX4_33) (fun _ h => h) rfl dX4_find_33 ?_
        refine va_get (D := D) (ci := 3) (v := .ref (ad 6)) (C := RX3) (T := TX3) (N := 9) hx hb hts ni3 hown hK hP 3 (cw_c3 cy ad aw σ (ju_tl (ju_hd (ju_wa (ju_cb (ju_co (ju_fc (ju_fi J (nf fi_)) (nf fc_)) (nf (z_co Z0))) (nf (z_cb Z0))) (nf (z_wa Z0))) (nf (z_hd Z0))) (nf (z_tl Z0)))) rfl 2 (by decide) (hts _ flX4_50) (fun _ h => h) rfl dX4_find_36 ?_
        refine va_get (D := D) (ci := 5) (v := .int (nI (s_ov σ + 256 * s_mo σ))) (C := RX5) (T := TX5) (N := 5) hx hb hts ni5 hown hK hP 6 (cw_c6 cy ad aw σ (ju_tl (ju_hd (ju_wa (ju_cb (ju_co (ju_fc (ju_fi J (nf fi_)) (nf fc_)) (nf (z_co Z0))) (nf (z_cb Z0))) (nf (z_wa Z0))) (nf (z_hd Z0))) (nf (z_tl Z0)))) rfl 1 (by decide) (hts _ flX4_54) (fun _ h => h) rfl dX4_find_39 ?_
        refine ln_nat (show s_ov σ + 256 * s_mo σ = st0 σ from st0_K σ) ?_
        refine lv_iconst (v := -1) hx hb dX4_find_42 (by decide) ?_
        refine ln_eq (show (-1) = (nI (4294967295)) from by decide) ?_
        refine lv_iconst (v := nI 0) hx hb dX4_find_43 (by decide) ?_
        refine lv_iconst (v := nI 0) hx hb dX4_find_44 (by decide) ?_
        refine cr_vv (n := 4) (As := [.int (nI (st0 σ)), .int (nI (4294967295)), .int (nI (0)), .int (nI (0))]) (rest := []) ⟨hx, hb, hml, hown, hts⟩ (k_X4_reach l D cy ad aw σ J fi_ fc_ Z0 (st0 σ) 4294967295 0 0 hs0 (by decide) (by decide) (by rw [hz1 _ hs0]; decide) (by rw [hz2.1]; decide)) gvX4_59 (by decide +kernel) ⟨Nat.le_of_ble_eq_true rfl, Nat.le_of_ble_eq_true rfl⟩ hK hN hP hD hS hA 11 (cw_c11 cy ad aw σ (ju_tl (ju_hd (ju_wa (ju_cb (ju_co (ju_fc (ju_fi J (nf fi_)) (nf fc_)) (nf (z_co Z0))) (nf (z_cb Z0))) (nf (z_wa Z0))) (nf (z_hd Z0))) (nf (z_tl Z0)))) rfl rfl hl.1 rfl (Nat.le_of_ble_eq_true rfl) dX4_find_45 ⟨Nat.zero_le _, Nat.zero_le _⟩ (fun _ => (cw_ad _ _ _ _ _).trans (cw_ad _ _ _ _ _).symm) (fun u2 H locs hpu2 hP hD hS => ?_)
        have hP : va_P D vwCl (cw cy ad aw σ (ju_tl (ju_hd (ju_wa (ju_cb (ju_co (ju_fc (ju_fi J (nf fi_)) (nf fc_)) (nf (z_co (rcF (st0 σ) 4294967295 0 0 Z0)))) (nf (z_cb (rcF (st0 σ) 4294967295 0 0 Z0)))) (nf (z_wa (rcF (st0 σ) 4294967295 0 0 Z0)))) (nf (z_hd (rcF (st0 σ) 4294967295 0 0 Z0)))) (nf (z_tl (rcF (st0 σ) 4294967295 0 0 Z0))))) H := hP
        have hD : va_D A (cw cy ad aw σ (ju_tl (ju_hd (ju_wa (ju_cb (ju_co (ju_fc (ju_fi J (nf fi_)) (nf fc_)) (nf (z_co (rcF (st0 σ) 4294967295 0 0 Z0)))) (nf (z_cb (rcF (st0 σ) 4294967295 0 0 Z0)))) (nf (z_wa (rcF (st0 σ) 4294967295 0 0 Z0)))) (nf (z_hd (rcF (st0 σ) 4294967295 0 0 Z0)))) (nf (z_tl (rcF (st0 σ) 4294967295 0 0 Z0))))) := hD
        refine lv_iconst (v := nI 0) hx hb dX4_find_48 (by decide) ?_
        refine lv_istore (lv' := [(4, .int (nI (0))), (0, .ref (ad 11)), (1, .int (nI (sn))), (2, .int (nI (bk))), (3, .int (bI (false)))]) hx hb dX4_find_49 hl (by decide) rfl (fun ls hl => ?_)
        have lp : ∀ (k_lp i : Nat) (ls : Array Slot) (H : Heap) (locs : List Loc) (B : Bf) (Z : Ss), i + k_lp = 6144 → bInv B → i ≤ b_l B → bUp B i → raC B Z → z_hd Z 0 = i → bfs σ (goalN sn bk) (2049 - i) i B = fewB σ sn bk → va_P D vwCl (cw cy ad aw σ (ju_tl (ju_hd (ju_wa (ju_cb (ju_co (ju_fc (ju_fi J (nf fi_)) (nf fc_)) (nf (z_co Z))) (nf (z_cb Z))) (nf (z_wa Z))) (nf (z_hd Z))) (nf (z_tl Z)))) H → va_D A (cw cy ad aw σ (ju_tl (ju_hd (ju_wa (ju_cb (ju_co (ju_fc (ju_fi J (nf fi_)) (nf fc_)) (nf (z_co Z))) (nf (z_cb Z))) (nf (z_wa Z))) (nf (z_hd Z))) (nf (z_tl Z)))) → va_S A s.heap H locs → lv_has ls 8 [(4, .int (nI (i))), (0, .ref (ad 11)), (1, .int (nI (sn))), (2, .int (nI (bk))), (3, .int (bI (false)))] → W p l e (headSpec qX4_find (rq 5)).room s m ([.ref (ad 11), .int (nI (sn)), .int (nI (bk)), .int (bI (false))] : List Value).toArray below meth c H locs 0 0 (MQ below (va_Qi (fun (r : Int32) (u : Js) => r = oI (fewB σ sn bk).1 ∧ raJ (fewB σ sn bk).2 u ∧ wfJ σ u) (fun u t => va_P D vwCl ((fun u : Js => cw cy ad aw σ u) u) t.heap) A) ([.ref (ad 11), .int (nI (sn)), .int (nI (bk)), .int (bI (false))] : List Value).toArray s 0 0 A) (F0 m 51 ls []) := by
          intro k_lp
          induction k_lp with
          | zero =>
            intro i ls H locs B Z hi_lp hB hil hU hra hhd hbf hP hD hS hl
            have hbl := hB.1
            refine lv_iload hx hb dX4_find_51 (lv_at hl 0 rfl) ?_
            refine lv_aload_n hx hb dX4_find_53 rfl (lv_at hl 1 rfl) ?_
            refine va_get (D := D) (ci := 4) (v := .ref (ad 16)) (C := RX4) (T := TX4) (N := 8) hx hb hts ni4 hown hK hP 11 (cw_c11 cy ad aw σ (ju_tl (ju_hd (ju_wa (ju_cb (ju_co (ju_fc (ju_fi J (nf fi_)) (nf fc_)) (nf (z_co Z))) (nf (z_cb Z))) (nf (z_wa Z))) (nf (z_hd Z))) (nf (z_tl Z)))) rfl 5 (by decide) (hts _ flX4_24) (fun _ h => h) rfl dX4_find_54 ?_
            refine ln_alen (n := 6144) hx hb hK hP 16 0 (cw_c16 cy ad aw σ (ju_tl (ju_hd (ju_wa (ju_cb (ju_co (ju_fc (ju_fi J (nf fi_)) (nf fc_)) (nf (z_co Z))) (nf (z_cb Z))) (nf (z_wa Z))) (nf (z_hd Z))) (nf (z_tl Z)))) rfl rfl dX4_find_57 ?_
            refine ln_icmp_ge (tgt := 179) hx hb dX4_find_58 (by decide) (by omega) (by omega) (fun c58 => ?_) (fun c58 => ?_)
            · refine lv_iconst (v := -1) hx hb dX4_find_179 (by decide) ?_
              exact rw_i hx hb hr hlocks hS (ju_tl (ju_hd (ju_wa (ju_cb (ju_co (ju_fc (ju_fi J (nf fi_)) (nf fc_)) (nf (z_co Z))) (nf (z_cb Z))) (nf (z_wa Z))) (nf (z_hd Z))) (nf (z_tl Z))) (⟨by exact absurd hbl (by omega), by exact absurd hbl (by omega), by exact absurd hbl (by omega)⟩) hP dX4_find_180
            · exact absurd c58 (by omega)
          | succ k_lp ih_lp =>
            intro i ls H locs B Z hi_lp hB hil hU hra hhd hbf hP hD hS hl
            have hbl := hB.1
            refine lv_iload hx hb dX4_find_51 (lv_at hl 0 rfl) ?_
            refine lv_aload_n hx hb dX4_find_53 rfl (lv_at hl 1 rfl) ?_
            refine va_get (D := D) (ci := 4) (v := .ref (ad 16)) (C := RX4) (T := TX4) (N := 8) hx hb hts ni4 hown hK hP 11 (cw_c11 cy ad aw σ (ju_tl (ju_hd (ju_wa (ju_cb (ju_co (ju_fc (ju_fi J (nf fi_)) (nf fc_)) (nf (z_co Z))) (nf (z_cb Z))) (nf (z_wa Z))) (nf (z_hd Z))) (nf (z_tl Z)))) rfl 5 (by decide) (hts _ flX4_24) (fun _ h => h) rfl dX4_find_54 ?_
            refine ln_alen (n := 6144) hx hb hK hP 16 0 (cw_c16 cy ad aw σ (ju_tl (ju_hd (ju_wa (ju_cb (ju_co (ju_fc (ju_fi J (nf fi_)) (nf fc_)) (nf (z_co Z))) (nf (z_cb Z))) (nf (z_wa Z))) (nf (z_hd Z))) (nf (z_tl Z)))) rfl rfl dX4_find_57 ?_
            refine ln_icmp_ge (tgt := 179) hx hb dX4_find_58 (by decide) (by omega) (by omega) (fun c58 => ?_) (fun c58 => ?_)
            · refine lv_iconst (v := -1) hx hb dX4_find_179 (by decide) ?_
              exact rw_i hx hb hr hlocks hS (ju_tl (ju_hd (ju_wa (ju_cb (ju_co (ju_fc (ju_fi J (nf fi_)) (nf fc_)) (nf (z_co Z))) (nf (z_cb Z))) (nf (z_wa Z))) (nf (z_hd Z))) (nf (z_tl Z))) (⟨by exact absurd hbl (by omega), by exact absurd hbl (by omega), by exact absurd hbl (by omega)⟩) hP dX4_find_180
            · refine lv_aload_n hx hb dX4_find_61 rfl (lv_at hl 1 rfl) ?_
              refine cr_v (n := 0) (As := []) (rest := []) ⟨hx, hb, hml, hown, hts⟩ (k_X4_cheapestQueue l D cy ad aw σ J fi_ fc_ Z (zQ_few hB hra hhd hil)) gvX4_63 (by decide +kernel) ⟨Nat.le_of_ble_eq_true rfl, Nat.le_of_ble_eq_true rfl⟩ hK hN hP 11 (cw_c11 cy ad aw σ (ju_tl (ju_hd (ju_wa (ju_cb (ju_co (ju_fc (ju_fi J (nf fi_)) (nf fc_)) (nf (z_co Z))) (nf (z_cb Z))) (nf (z_wa Z))) (nf (z_hd Z))) (nf (z_tl Z)))) rfl rfl hl.1 rfl (Nat.le_of_ble_eq_true rfl) dX4_find_62 ⟨Nat.zero_le _, Nat.zero_le _⟩ ?_
              rcases Nat.lt_or_ge i (b_l B) with hcl | hcl
              · refine ln_eq (show oI (lwt (lvP Z) (lvW Z) 3) = nI 0 from by rw [cq_some hra hhd hcl]; rfl) ?_
                obtain ⟨hsv, da, hda, hdai⟩ := hB.2.1 i hcl
                have hwa := hra.2.2.1 i hcl
                have hsm : b_q B i % 256 < 256 := Nat.mod_lt _ (by decide)
                refine lv_istore (lv' := [(5, .int (nI (0))), (4, .int (nI (i))), (0, .ref (ad 11)), (1, .int (nI (sn))), (2, .int (nI (bk))), (3, .int (bI (false)))]) hx hb dX4_find_65 hl (by decide) rfl (fun ls hl => ?_)
                refine lv_iload hx hb dX4_find_67 (lv_at hl 0 rfl) ?_
                refine lv_iconst (v := -1) hx hb dX4_find_69 (by decide) ?_
                refine lv_icmp_ne (tgt := 75) hx hb dX4_find_70 (by decide) (fun _ => ?_) (fun c => absurd c (m1_ne _ (by omega)))
                refine lv_aload_n hx hb dX4_find_75 rfl (lv_at hl 2 rfl) ?_
                refine va_get (D := D) (ci := 4) (v := .ref (ad 16)) (C := RX4) (T := TX4) (N := 8) hx hb hts ni4 hown hK hP 11 (cw_c11 cy ad aw σ (ju_tl (ju_hd (ju_wa (ju_cb (ju_co (ju_fc (ju_fi J (nf fi_)) (nf fc_)) (nf (z_co Z))) (nf (z_cb Z))) (nf (z_wa Z))) (nf (z_hd Z))) (nf (z_tl Z)))) rfl 5 (by decide) (hts _ flX4_24) (fun _ h => h) rfl dX4_find_76 ?_
                refine lv_aload_n hx hb dX4_find_79 rfl (lv_at hl 2 rfl) ?_
                refine va_get (D := D) (ci := 4) (v := .ref (ad 17)) (C := RX4) (T := TX4) (N := 8) hx hb hts ni4 hown hK hP 11 (cw_c11 cy ad aw σ (ju_tl (ju_hd (ju_wa (ju_cb (ju_co (ju_fc (ju_fi J (nf fi_)) (nf fc_)) (nf (z_co Z))) (nf (z_cb Z))) (nf (z_wa Z))) (nf (z_hd Z))) (nf (z_tl Z)))) rfl 6 (by decide) (hts _ flX4_27) (fun _ h => h) rfl dX4_find_80 ?_
                refine lv_iload hx hb dX4_find_83 (lv_at hl 0 rfl) ?_
                refine ln_iald (v := (nI ((z_hd Z) 0))) hx hb hK hP 17 (cw_c17 cy ad aw σ (ju_tl (ju_hd (ju_wa (ju_cb (ju_co (ju_fc (ju_fi J (nf fi_)) (nf fc_)) (nf (z_co Z))) (nf (z_cb Z))) (nf (z_wa Z))) (nf (z_hd Z))) (nf (z_tl Z)))) (by omega) (by decide) rfl dX4_find_85 ?_
                refine ln_nat (show (z_hd Z) 0 = i from hhd) ?_
                refine ln_iald (v := (nI ((z_wa Z) i))) hx hb hK hP 16 (cw_c16 cy ad aw σ (ju_tl (ju_hd (ju_wa (ju_cb (ju_co (ju_fc (ju_fi J (nf fi_)) (nf fc_)) (nf (z_co Z))) (nf (z_cb Z))) (nf (z_wa Z))) (nf (z_hd Z))) (nf (z_tl Z)))) (by omega) (by decide) rfl dX4_find_86 ?_
                refine ln_nat (show (z_wa Z) i = b_q B i % 256 + 256 * (b_q B i / 256) from by rw [hwa, Nat.mod_add_div]) ?_
                refine lv_istore (lv' := [(6, .int (nI (b_q B i % 256 + 256 * (b_q B i / 256)))), (5, .int (nI (0))), (4, .int (nI (i))), (0, .ref (ad 11)), (1, .int (nI (sn))), (2, .int (nI (bk))), (3, .int (bI (false)))]) hx hb dX4_find_87 hl (by decide) rfl (fun ls hl => ?_)
                refine lv_aload_n hx hb dX4_find_89 rfl (lv_at hl 3 rfl) ?_
                refine va_get (D := D) (ci := 4) (v := .ref (ad 17)) (C := RX4) (T := TX4) (N := 8) hx hb hts ni4 hown hK hP 11 (cw_c11 cy ad aw σ (ju_tl (ju_hd (ju_wa (ju_cb (ju_co (ju_fc (ju_fi J (nf fi_)) (nf fc_)) (nf (z_co Z))) (nf (z_cb Z))) (nf (z_wa Z))) (nf (z_hd Z))) (nf (z_tl Z)))) rfl 6 (by decide) (hts _ flX4_27) (fun _ h => h) rfl dX4_find_90 ?_
                refine lv_iload hx hb dX4_find_93 (lv_at hl 1 rfl) ?_
                refine lv_dup2_11 hx hb dX4_find_95 rfl rfl ?_
                refine ln_iald (v := (nI ((z_hd Z) 0))) hx hb hK hP 17 (cw_c17 cy ad aw σ (ju_tl (ju_hd (ju_wa (ju_cb (ju_co (ju_fc (ju_fi J (nf fi_)) (nf fc_)) (nf (z_co Z))) (nf (z_cb Z))) (nf (z_wa Z))) (nf (z_hd Z))) (nf (z_tl Z)))) (by omega) (by decide) rfl dX4_find_96 ?_
                refine ln_nat (show (z_hd Z) 0 = i from hhd) ?_
                refine lv_iconst (v := nI 1) hx hb dX4_find_97 (by decide) ?_
                refine ln_iadd hx hb dX4_find_98 ?_
                refine ln_iast hx hb hK hP hD hS 17 (cw_c17 cy ad aw σ (ju_tl (ju_hd (ju_wa (ju_cb (ju_co (ju_fc (ju_fi J (nf fi_)) (nf fc_)) (nf (z_co Z))) (nf (z_cb Z))) (nf (z_wa Z))) (nf (z_hd Z))) (nf (z_tl Z)))) (by omega) (by decide) ((cp_17 cy ad aw σ (ju_tl (ju_hd (ju_wa (ju_cb (ju_co (ju_fc (ju_fi J (nf fi_)) (nf fc_)) (nf (z_co Z))) (nf (z_cb Z))) (nf (z_wa Z))) (nf (z_hd Z))) (nf (z_tl Z))) 0 (nI (i + 1))).trans (congrArg (fun z => cw cy ad aw σ z) (by rw [show upd (j_hd (ju_tl (ju_hd (ju_wa (ju_cb (ju_co (ju_fc (ju_fi J (nf fi_)) (nf fc_)) (nf (z_co Z))) (nf (z_cb Z))) (nf (z_wa Z))) (nf (z_hd Z))) (nf (z_tl Z)))) 0 (nI (i + 1)) = nf (updN (z_hd Z) 0 (i + 1)) from nf_upd _ _ _, jx_hd_tl, jc_hd]))) dX4_find_99 (fun H locs hP hD hS => ?_)
                have hP : va_P D vwCl (cw cy ad aw σ (ju_tl (ju_hd (ju_wa (ju_cb (ju_co (ju_fc (ju_fi J (nf fi_)) (nf fc_)) (nf (z_co (zHd Z 0 (i + 1))))) (nf (z_cb (zHd Z 0 (i + 1))))) (nf (z_wa (zHd Z 0 (i + 1))))) (nf (z_hd (zHd Z 0 (i + 1))))) (nf (z_tl (zHd Z 0 (i + 1)))))) H := hP
                have hD : va_D A (cw cy ad aw σ (ju_tl (ju_hd (ju_wa (ju_cb (ju_co (ju_fc (ju_fi J (nf fi_)) (nf fc_)) (nf (z_co (zHd Z 0 (i + 1))))) (nf (z_cb (zHd Z 0 (i + 1))))) (nf (z_wa (zHd Z 0 (i + 1))))) (nf (z_hd (zHd Z 0 (i + 1))))) (nf (z_tl (zHd Z 0 (i + 1)))))) := hD
                have hra2 := raC_hd hra (i + 1)
                refine lv_iload_n hx hb dX4_find_100 rfl (lv_at hl 5 rfl) ?_
                refine lv_iload_n hx hb dX4_find_101 rfl (lv_at hl 4 rfl) ?_
                refine lv_iload hx hb dX4_find_102 (lv_at hl 0 rfl) ?_
                refine cr_sn (host := "NumberFerries") (n := 3) (As := [.int (nI (bk)), .int (nI (sn)), .int (nI (b_q B i % 256 + 256 * (b_q B i / 256)))]) (rest := []) ⟨hx, hb, hml, hown, hts⟩ (k_X10_allOn l bk sn (b_q B i % 256) (b_q B i / 256) (by omega) (by omega) (by omega) (by omega)) (hN _ (List.mem_of_getElem? (i := 2) rfl)) (hts _ smX10_allOn) (hts _ iniX10) (gc_of cdX10_allOn) (by decide +kernel) ⟨Nat.le_of_ble_eq_true rfl, Nat.le_of_ble_eq_true rfl⟩ rfl hl.1 rfl (Nat.le_of_ble_eq_true rfl) dX4_find_104 ⟨Nat.zero_le _, Nat.zero_le _⟩ ?_
                refine lb_if_eq (tgt := 113) hx hb dX4_find_107 (by decide) (fun c107 => ?_) (fun c107 => ?_)
                · refine lv_iconst (v := nI 0) hx hb dX4_find_113 (by decide) ?_
                  refine lv_istore (lv' := [(7, .int (nI (0))), (6, .int (nI (b_q B i % 256 + 256 * (b_q B i / 256)))), (5, .int (nI (0))), (4, .int (nI (i))), (0, .ref (ad 11)), (1, .int (nI (sn))), (2, .int (nI (bk))), (3, .int (bI (false)))]) hx hb dX4_find_114 hl (by decide) rfl (fun ls hl => ?_)
                  have lf : ∀ (k_lf f : Nat) (ls : Array Slot) (H : Heap) (locs : List Loc) (Zf : Ss), f + k_lf = s_m σ → raC (expF σ (b_q B i) da B f) Zf → bTop (expF σ (b_q B i) da B f) da → z_hd Zf 0 = i + 1 → va_P D vwCl (cw cy ad aw σ (ju_tl (ju_hd (ju_wa (ju_cb (ju_co (ju_fc (ju_fi J (nf fi_)) (nf fc_)) (nf (z_co Zf))) (nf (z_cb Zf))) (nf (z_wa Zf))) (nf (z_hd Zf))) (nf (z_tl Zf)))) H → va_D A (cw cy ad aw σ (ju_tl (ju_hd (ju_wa (ju_cb (ju_co (ju_fc (ju_fi J (nf fi_)) (nf fc_)) (nf (z_co Zf))) (nf (z_cb Zf))) (nf (z_wa Zf))) (nf (z_hd Zf))) (nf (z_tl Zf)))) → va_S A s.heap H locs → lv_has ls 8 [(7, .int (nI (f))), (6, .int (nI (b_q B i % 256 + 256 * (b_q B i / 256)))), (4, .int (nI (i))), (0, .ref (ad 11)), (1, .int (nI (sn))), (2, .int (nI (bk))), (3, .int (bI (false)))] → W p l e (headSpec qX4_find (rq 5)).room s m ([.ref (ad 11), .int (nI (sn)), .int (nI (bk)), .int (bI (false))] : List Value).toArray below meth c H locs 0 0 (MQ below (va_Qi (fun (r : Int32) (u : Js) => r = oI (fewB σ sn bk).1 ∧ raJ (fewB σ sn bk).2 u ∧ wfJ σ u) (fun u t => va_P D vwCl ((fun u : Js => cw cy ad aw σ u) u) t.heap) A) ([.ref (ad 11), .int (nI (sn)), .int (nI (bk)), .int (bI (false))] : List Value).toArray s 0 0 A) (F0 m 116 ls []) := by
                    intro k_lf
                    induction k_lf with
                    | zero =>
                      intro f ls H locs Zf hi_lf hraf hTf hhf hP hD hS hl
                      have hF := expF_inv (σ := σ) hB hsv hda hdai hcl hp8 (f := f) (by omega)
                      refine lv_iload hx hb dX4_find_116 (lv_at hl 0 rfl) ?_
                      refine lv_aload_n hx hb dX4_find_118 rfl (lv_at hl 3 rfl) ?_
                      refine va_get (D := D) (ci := 4) (v := .ref (ad 3)) (C := RX4) (T := TX4) (N := 8) hx hb hts ni4 hown hK hP 11 (cw_c11 cy ad aw σ (ju_tl (ju_hd (ju_wa (ju_cb (ju_co (ju_fc (ju_fi J (nf fi_)) (nf fc_)) (nf (z_co Zf))) (nf (z_cb Zf))) (nf (z_wa Zf))) (nf (z_hd Zf))) (nf (z_tl Zf)))) rfl 0 (by decide) (hts _ flX4_33) (fun _ h => h) rfl dX4_find_119 ?_
                      refine va_get (D := D) (ci := 3) (v := .int (nI (s_m σ))) (C := RX3) (T := TX3) (N := 9) hx hb hts ni3 hown hK hP 3 (cw_c3 cy ad aw σ (ju_tl (ju_hd (ju_wa (ju_cb (ju_co (ju_fc (ju_fi J (nf fi_)) (nf fc_)) (nf (z_co Zf))) (nf (z_cb Zf))) (nf (z_wa Zf))) (nf (z_hd Zf))) (nf (z_tl Zf)))) rfl 4 (by decide) (hts _ flX4_40) (fun _ h => h) rfl dX4_find_122 ?_
                      refine ln_icmp_ge (tgt := 173) hx hb dX4_find_125 (by decide) (by omega) (by omega) (fun c125 => ?_) (fun c125 => ?_)
                      · rw [show f = s_m σ by omega] at hraf hF
                        have hBn := hF.1
                        have hln : i + 1 ≤ b_l (expF σ (b_q B i) da B (s_m σ)) := Nat.le_trans hcl hF.2.2.1
                        have hUn := up_next (σ := σ) hB hU hcl hda hp8 hw2
                        have hran := hraf
                        have hhdn := hhf
                        have hbn : bfs σ (goalN sn bk) (2049 - (i + 1)) (i + 1) (expF σ (b_q B i) da B (s_m σ)) = fewB σ sn bk := by rw [← hbf, show 2049 - i = (2049 - (i + 1)) + 1 by omega, bfs, if_pos hcl, show goalN sn bk (b_q B i) = false from (by rw [goalN, and_255]; exact c107), hda]; rfl
                        have hl : lv_has ls 8 [(6, .int (nI (b_q B i % 256 + 256 * (b_q B i / 256)))), (4, .int (nI (i))), (0, .ref (ad 11)), (1, .int (nI (sn))), (2, .int (nI (bk))), (3, .int (bI (false)))] := lv_sub hl [1, 2, 3, 4, 5, 6] rfl
                        refine ln_iinc (lv' := [(4, .int (nI (i + 1))), (6, .int (nI (b_q B i % 256 + 256 * (b_q B i / 256)))), (0, .ref (ad 11)), (1, .int (nI (sn))), (2, .int (nI (bk))), (3, .int (bI (false)))]) hx hb dX4_find_173 hl (k := 1) (n := 1) rfl (by decide) rfl (fun ls hl => ?_)
                        refine lv_goto (tgt := 51) hx hb dX4_find_176 (by decide) ?_
                        have hl : lv_has ls 8 [(4, .int (nI (i + 1))), (0, .ref (ad 11)), (1, .int (nI (sn))), (2, .int (nI (bk))), (3, .int (bI (false)))] := lv_sub hl [0, 2, 3, 4, 5] rfl
                        exact ih_lp (i + 1) ls _ _ _ _ (by omega) hBn hln hUn hran hhdn hbn hP hD hS hl
                      · exact absurd c125 (by omega)
                    | succ k_lf ih_lf =>
                      intro f ls H locs Zf hi_lf hraf hTf hhf hP hD hS hl
                      have hF := expF_inv (σ := σ) hB hsv hda hdai hcl hp8 (f := f) (by omega)
                      refine lv_iload hx hb dX4_find_116 (lv_at hl 0 rfl) ?_
                      refine lv_aload_n hx hb dX4_find_118 rfl (lv_at hl 3 rfl) ?_
                      refine va_get (D := D) (ci := 4) (v := .ref (ad 3)) (C := RX4) (T := TX4) (N := 8) hx hb hts ni4 hown hK hP 11 (cw_c11 cy ad aw σ (ju_tl (ju_hd (ju_wa (ju_cb (ju_co (ju_fc (ju_fi J (nf fi_)) (nf fc_)) (nf (z_co Zf))) (nf (z_cb Zf))) (nf (z_wa Zf))) (nf (z_hd Zf))) (nf (z_tl Zf)))) rfl 0 (by decide) (hts _ flX4_33) (fun _ h => h) rfl dX4_find_119 ?_
                      refine va_get (D := D) (ci := 3) (v := .int (nI (s_m σ))) (C := RX3) (T := TX3) (N := 9) hx hb hts ni3 hown hK hP 3 (cw_c3 cy ad aw σ (ju_tl (ju_hd (ju_wa (ju_cb (ju_co (ju_fc (ju_fi J (nf fi_)) (nf fc_)) (nf (z_co Zf))) (nf (z_cb Zf))) (nf (z_wa Zf))) (nf (z_hd Zf))) (nf (z_tl Zf)))) rfl 4 (by decide) (hts _ flX4_40) (fun _ h => h) rfl dX4_find_122 ?_
                      refine ln_icmp_ge (tgt := 173) hx hb dX4_find_125 (by decide) (by omega) (by omega) (fun c125 => ?_) (fun c125 => ?_)
                      · exact absurd c125 (by omega)
                      · refine lv_aload_n hx hb dX4_find_128 rfl (lv_at hl 3 rfl) ?_
                        refine lv_iload hx hb dX4_find_129 (lv_at hl 1 rfl) ?_
                        refine lv_iload hx hb dX4_find_131 (lv_at hl 0 rfl) ?_
                        refine lv_iload_n hx hb dX4_find_133 rfl (lv_at hl 6 rfl) ?_
                        refine lb_if_eq (tgt := 142) hx hb dX4_find_134 (by decide) (fun _ => ?_) (fun c => absurd c (by decide))
                        refine lv_iconst (v := nI 0) hx hb dX4_find_142 (by decide) ?_
                        refine lv_iload_n hx hb dX4_find_143 rfl (lv_at hl 6 rfl) ?_
                        refine lb_if_eq (tgt := 163) hx hb dX4_find_144 (by decide) (fun _ => ?_) (fun c => absurd c (by decide))
                        refine lv_iconst (v := nI 1) hx hb dX4_find_163 (by decide) ?_
                        refine cr_vv (n := 4) (As := [.int (nI (b_q B i % 256 + 256 * (b_q B i / 256))), .int (nI (f)), .int (nI (0)), .int (nI (1))]) (rest := []) ⟨hx, hb, hml, hown, hts⟩ (k_X4_spread l D cy ad aw σ J fi_ fc_ Zf (b_q B i % 256) (b_q B i / 256) f 0 1 hw hsm (by omega) (by omega) (by decide) (by decide) (raC_ok hF.1 hraf) (by rw [Nat.mod_add_div, raC_some hraf hsv hF.2.1]; have := bd_lt hF.1 hF.2.1; omega) (hft.1 f (by omega)).1 (hft.1 f (by omega)).2) gvX4_80 (by decide +kernel) ⟨Nat.le_of_ble_eq_true rfl, Nat.le_of_ble_eq_true rfl⟩ hK hN hP hD hS hA 11 (cw_c11 cy ad aw σ (ju_tl (ju_hd (ju_wa (ju_cb (ju_co (ju_fc (ju_fi J (nf fi_)) (nf fc_)) (nf (z_co Zf))) (nf (z_cb Zf))) (nf (z_wa Zf))) (nf (z_hd Zf))) (nf (z_tl Zf)))) rfl rfl hl.1 rfl (Nat.le_of_ble_eq_true rfl) dX4_find_164 ⟨Nat.zero_le _, Nat.zero_le _⟩ (fun _ => (cw_ad _ _ _ _ _).trans (cw_ad _ _ _ _ _).symm) (fun u3 H locs hpu3 hP hD hS => ?_)
                        have hP : va_P D vwCl (cw cy ad aw σ (ju_tl (ju_hd (ju_wa (ju_cb (ju_co (ju_fc (ju_fi J (nf fi_)) (nf fc_)) (nf (z_co (spX σ (b_q B i % 256 + 256 * (b_q B i / 256)) f 0 1 Zf (2 ^ s_n σ))))) (nf (z_cb (spX σ (b_q B i % 256 + 256 * (b_q B i / 256)) f 0 1 Zf (2 ^ s_n σ))))) (nf (z_wa (spX σ (b_q B i % 256 + 256 * (b_q B i / 256)) f 0 1 Zf (2 ^ s_n σ))))) (nf (z_hd (spX σ (b_q B i % 256 + 256 * (b_q B i / 256)) f 0 1 Zf (2 ^ s_n σ))))) (nf (z_tl (spX σ (b_q B i % 256 + 256 * (b_q B i / 256)) f 0 1 Zf (2 ^ s_n σ)))))) H := hP
                        have hD : va_D A (cw cy ad aw σ (ju_tl (ju_hd (ju_wa (ju_cb (ju_co (ju_fc (ju_fi J (nf fi_)) (nf fc_)) (nf (z_co (spX σ (b_q B i % 256 + 256 * (b_q B i / 256)) f 0 1 Zf (2 ^ s_n σ))))) (nf (z_cb (spX σ (b_q B i % 256 + 256 * (b_q B i / 256)) f 0 1 Zf (2 ^ s_n σ))))) (nf (z_wa (spX σ (b_q B i % 256 + 256 * (b_q B i / 256)) f 0 1 Zf (2 ^ s_n σ))))) (nf (z_hd (spX σ (b_q B i % 256 + 256 * (b_q B i / 256)) f 0 1 Zf (2 ^ s_n σ))))) (nf (z_tl (spX σ (b_q B i % 256 + 256 * (b_q B i / 256)) f 0 1 Zf (2 ^ s_n σ)))))) := hD
                        refine ln_iinc (lv' := [(7, .int (nI (f + 1))), (6, .int (nI (b_q B i % 256 + 256 * (b_q B i / 256)))), (4, .int (nI (i))), (0, .ref (ad 11)), (1, .int (nI (sn))), (2, .int (nI (bk))), (3, .int (bI (false)))]) hx hb dX4_find_167 hl (k := 0) (n := 1) rfl (by decide) rfl (fun ls hl => ?_)
                        refine lv_goto (tgt := 116) hx hb dX4_find_170 (by decide) ?_
                        have hl : lv_has ls 8 [(7, .int (nI (f + 1))), (6, .int (nI (b_q B i % 256 + 256 * (b_q B i / 256)))), (4, .int (nI (i))), (0, .ref (ad 11)), (1, .int (nI (sn))), (2, .int (nI (bk))), (3, .int (bI (false)))] := lv_sub hl [0, 1, 2, 3, 4, 5, 6] rfl
                        exact ih_lf (f + 1) ls _ _ _ (by omega) (by rw [Nat.mod_add_div]; exact (raC_expX hF.1 hraf hTf hsv hF.2.1 hdai (Nat.lt_of_lt_of_le hcl hF.2.2.1) (by omega) hp8).1) (raC_expX hF.1 hraf hTf hsv hF.2.1 hdai (Nat.lt_of_lt_of_le hcl hF.2.2.1) (by omega) hp8).2 (by rw [spX_hd]; exact hhf) hP hD hS hl
                  have hl : lv_has ls 8 [(7, .int (nI (0))), (6, .int (nI (b_q B i % 256 + 256 * (b_q B i / 256)))), (4, .int (nI (i))), (0, .ref (ad 11)), (1, .int (nI (sn))), (2, .int (nI (bk))), (3, .int (bI (false)))] := lv_sub hl [0, 1, 3, 4, 5, 6, 7] rfl
                  exact lf (s_m σ - 0) 0 ls _ _ _ (by omega) hra2 (hU.2 da hcl hda) (show updN (z_hd Z) 0 (i + 1) 0 = i + 1 from updN_at _ _ _) hP hD hS hl
                · refine lv_iload hx hb dX4_find_110 (lv_at hl 0 rfl) ?_
                  exact rw_i hx hb hr hlocks hS (ju_tl (ju_hd (ju_wa (ju_cb (ju_co (ju_fc (ju_fi J (nf fi_)) (nf fc_)) (nf (z_co (zHd Z 0 (i + 1))))) (nf (z_cb (zHd Z 0 (i + 1))))) (nf (z_wa (zHd Z 0 (i + 1))))) (nf (z_hd (zHd Z 0 (i + 1))))) (nf (z_tl (zHd Z 0 (i + 1))))) (⟨by rw [Nat.mod_add_div, ← hbf, show 2049 - i = (2048 - i) + 1 by omega, bfs, if_pos hcl, show goalN sn bk (b_q B i) = true from (by rw [goalN, and_255]; exact c107)]; rfl, by rw [← hbf, show 2049 - i = (2048 - i) + 1 by omega, bfs, if_pos hcl, show goalN sn bk (b_q B i) = true from (by rw [goalN, and_255]; exact c107)]; exact raJ_of hra2 J fi_ fc_, wfJ_se hj _ _ _ _ _ _ _⟩) hP dX4_find_112
              · refine ln_eq (show oI (lwt (lvP Z) (lvW Z) 3) = -1 from by rw [cq_none hra hhd (Nat.not_lt.mpr hcl)]; rfl) ?_
                refine lv_istore (lv' := [(5, .int (-1)), (4, .int (nI (i))), (0, .ref (ad 11)), (1, .int (nI (sn))), (2, .int (nI (bk))), (3, .int (bI (false)))]) hx hb dX4_find_65 hl (by decide) rfl (fun ls hl => ?_)
                refine lv_iload hx hb dX4_find_67 (lv_at hl 0 rfl) ?_
                refine lv_iconst (v := -1) hx hb dX4_find_69 (by decide) ?_
                refine lv_icmp_ne (tgt := 75) hx hb dX4_find_70 (by decide) (fun c => absurd rfl c) (fun _ => ?_)
                refine lv_iconst (v := -1) hx hb dX4_find_73 (by decide) ?_
                exact rw_i hx hb hr hlocks hS (ju_tl (ju_hd (ju_wa (ju_cb (ju_co (ju_fc (ju_fi J (nf fi_)) (nf fc_)) (nf (z_co Z))) (nf (z_cb Z))) (nf (z_wa Z))) (nf (z_hd Z))) (nf (z_tl Z))) (⟨by rw [← hbf, show 2049 - i = (2048 - i) + 1 by omega, bfs, if_neg (by omega)]; rfl, by rw [← hbf, show 2049 - i = (2048 - i) + 1 by omega, bfs, if_neg (by omega)]; exact raJ_of hra J fi_ fc_, wfJ_se hj _ _ _ _ _ _ _⟩) hP dX4_find_74
        have hl : lv_has ls 8 [(4, .int (nI (0))), (0, .ref (ad 11)), (1, .int (nI (sn))), (2, .int (nI (bk))), (3, .int (bI (false)))] := lv_sub hl [0, 1, 2, 3, 4] rfl
        exact lp (6144 - 0) 0 ls _ _ _ _ (by omega) (B0_inv hs0) (Nat.zero_le _) (up_0 _) (raC_0 hs0 hz1 hz2.1 hz3 hz4) (by rw [rcF_hd]; exact hz2.2) rfl hP hD hS hl
      · exact absurd c16 (by omega)
    | succ k_l0 ih_l0 =>
      intro f ls H locs fi_ fc_ hi_l0 hft hP hD hS hl
      refine lv_iload hx hb dX4_find_7 (lv_at hl 0 rfl) ?_
      refine lv_aload_n hx hb dX4_find_9 rfl (lv_at hl 1 rfl) ?_
      refine va_get (D := D) (ci := 4) (v := .ref (ad 3)) (C := RX4) (T := TX4) (N := 8) hx hb hts ni4 hown hK hP 11 (cw_c11 cy ad aw σ (ju_tl (ju_hd (ju_wa (ju_cb (ju_co (ju_fc (ju_fi J (nf fi_)) (nf fc_)) (nf (z_co Z0))) (nf (z_cb Z0))) (nf (z_wa Z0))) (nf (z_hd Z0))) (nf (z_tl Z0)))) rfl 0 (by decide) (hts _ flX4_33) (fun _ h => h) rfl dX4_find_10 ?_
      refine va_get (D := D) (ci := 3) (v := .int (nI (s_m σ))) (C := RX3) (T := TX3) (N := 9) hx hb hts ni3 hown hK hP 3 (cw_c3 cy ad aw σ (ju_tl (ju_hd (ju_wa (ju_cb (ju_co (ju_fc (ju_fi J (nf fi_)) (nf fc_)) (nf (z_co Z0))) (nf (z_cb Z0))) (nf (z_wa Z0))) (nf (z_hd Z0))) (nf (z_tl Z0)))) rfl 4 (by decide) (hts _ flX4_40) (fun _ h => h) rfl dX4_find_13 ?_
      refine ln_icmp_ge (tgt := 31) hx hb dX4_find_16 (by decide) (by omega) (by omega) (fun c16 => ?_) (fun c16 => ?_)
      · exact absurd c16 (by omega)
      · refine lv_aload_n hx hb dX4_find_19 rfl (lv_at hl 1 rfl) ?_
        refine lv_iload hx hb dX4_find_20 (lv_at hl 0 rfl) ?_
        refine cr_vv (n := 1) (As := [.int (nI (f))]) (rest := []) ⟨hx, hb, hml, hown, hts⟩ (k_X4_listFits l D cy ad aw σ J fi_ fc_ (z_co Z0) (z_cb Z0) (z_wa Z0) (z_hd Z0) (z_tl Z0) f hw hj (by omega) (hft.2 f (Nat.le_refl _) (by omega))) gvX4_46 (by decide +kernel) ⟨Nat.le_of_ble_eq_true rfl, Nat.le_of_ble_eq_true rfl⟩ hK hN hP hD hS hA 11 (cw_c11 cy ad aw σ (ju_tl (ju_hd (ju_wa (ju_cb (ju_co (ju_fc (ju_fi J (nf fi_)) (nf fc_)) (nf (z_co Z0))) (nf (z_cb Z0))) (nf (z_wa Z0))) (nf (z_hd Z0))) (nf (z_tl Z0)))) rfl rfl hl.1 rfl (Nat.le_of_ble_eq_true rfl) dX4_find_22 ⟨Nat.zero_le _, Nat.zero_le _⟩ (fun _ => (cw_ad _ _ _ _ _).trans (cw_ad _ _ _ _ _).symm) (fun u4 H locs hpu4 hP hD hS => ?_)
        have hP : va_P D vwCl (cw cy ad aw σ (ju_tl (ju_hd (ju_wa (ju_cb (ju_co (ju_fc (ju_fi J (nf u4)) (nf (updN fc_ f (cntN (isRS σ f) (2 ^ s_n σ))))) (nf (z_co Z0))) (nf (z_cb Z0))) (nf (z_wa Z0))) (nf (z_hd Z0))) (nf (z_tl Z0)))) H := hP
        have hD : va_D A (cw cy ad aw σ (ju_tl (ju_hd (ju_wa (ju_cb (ju_co (ju_fc (ju_fi J (nf u4)) (nf (updN fc_ f (cntN (isRS σ f) (2 ^ s_n σ))))) (nf (z_co Z0))) (nf (z_cb Z0))) (nf (z_wa Z0))) (nf (z_hd Z0))) (nf (z_tl Z0)))) := hD
        have hplf := hpu4
        refine ln_iinc (lv' := [(4, .int (nI (f + 1))), (0, .ref (ad 11)), (1, .int (nI (sn))), (2, .int (nI (bk))), (3, .int (bI (false)))]) hx hb dX4_find_25 hl (k := 0) (n := 1) rfl (by decide) rfl (fun ls hl => ?_)
        refine lv_goto (tgt := 7) hx hb dX4_find_28 (by decide) ?_
        have hl : lv_has ls 8 [(4, .int (nI (f + 1))), (0, .ref (ad 11)), (1, .int (nI (sn))), (2, .int (nI (bk))), (3, .int (bI (false)))] := lv_sub hl [0, 1, 2, 3, 4] rfl
        exact ih_l0 (f + 1) ls _ _ _ _ (by omega) (ftAll_s hft hp8 hplf.1 hplf.2) hP hD hS hl
  have hl : lv_has ls 8 [(4, .int (nI (0))), (0, .ref (ad 11)), (1, .int (nI (sn))), (2, .int (nI (bk))), (3, .int (bI (false)))] := lv_sub hl [0, 1, 2, 3, 4] rfl
  exact l0 (s_m σ - 0) 0 ls _ _ fi fd (by omega) hft0 hP hD hS hl
