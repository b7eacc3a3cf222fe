abbrev Sg : Type := (Nat) × (Nat → Nat) × (Nat) × (Nat → Nat) × (Nat) × (Nat → Nat) × (Nat) × (Nat) × (Nat) × (Bool) × (Nat) × (Nat → Nat) × (Nat → Bool) × (Nat) × (Nat → Nat)
def s_n (x : Sg) : Nat := x.1
def s_th (x : Sg) : Nat → Nat := x.2.1
def s_m (x : Sg) : Nat := x.2.2.1
def s_fe (x : Sg) : Nat → Nat := x.2.2.2.1
def s_ln (x : Sg) : Nat := x.2.2.2.2.1
def s_tx (x : Sg) : Nat → Nat := x.2.2.2.2.2.1
def s_ov (x : Sg) : Nat := x.2.2.2.2.2.2.1
def s_mo (x : Sg) : Nat := x.2.2.2.2.2.2.2.1
def s_of (x : Sg) : Nat := x.2.2.2.2.2.2.2.2.1
def s_la (x : Sg) : Bool := x.2.2.2.2.2.2.2.2.2.1
def s_cr (x : Sg) : Nat := x.2.2.2.2.2.2.2.2.2.2.1
def s_im (x : Sg) : Nat → Nat := x.2.2.2.2.2.2.2.2.2.2.2.1
def s_kp (x : Sg) : Nat → Bool := x.2.2.2.2.2.2.2.2.2.2.2.2.1
def s_rn (x : Sg) : Nat := x.2.2.2.2.2.2.2.2.2.2.2.2.2.1
def s_ro (x : Sg) : Nat → Nat := x.2.2.2.2.2.2.2.2.2.2.2.2.2.2
def su_n (x : Sg) (v : Nat) : Sg := (v, s_th x, s_m x, s_fe x, s_ln x, s_tx x, s_ov x, s_mo x, s_of x, s_la x, s_cr x, s_im x, s_kp x, s_rn x, s_ro x)
def su_th (x : Sg) (v : Nat → Nat) : Sg := (s_n x, v, s_m x, s_fe x, s_ln x, s_tx x, s_ov x, s_mo x, s_of x, s_la x, s_cr x, s_im x, s_kp x, s_rn x, s_ro x)
def su_m (x : Sg) (v : Nat) : Sg := (s_n x, s_th x, v, s_fe x, s_ln x, s_tx x, s_ov x, s_mo x, s_of x, s_la x, s_cr x, s_im x, s_kp x, s_rn x, s_ro x)
def su_fe (x : Sg) (v : Nat → Nat) : Sg := (s_n x, s_th x, s_m x, v, s_ln x, s_tx x, s_ov x, s_mo x, s_of x, s_la x, s_cr x, s_im x, s_kp x, s_rn x, s_ro x)
def su_ln (x : Sg) (v : Nat) : Sg := (s_n x, s_th x, s_m x, s_fe x, v, s_tx x, s_ov x, s_mo x, s_of x, s_la x, s_cr x, s_im x, s_kp x, s_rn x, s_ro x)
def su_tx (x : Sg) (v : Nat → Nat) : Sg := (s_n x, s_th x, s_m x, s_fe x, s_ln x, v, s_ov x, s_mo x, s_of x, s_la x, s_cr x, s_im x, s_kp x, s_rn x, s_ro x)
def su_ov (x : Sg) (v : Nat) : Sg := (s_n x, s_th x, s_m x, s_fe x, s_ln x, s_tx x, v, s_mo x, s_of x, s_la x, s_cr x, s_im x, s_kp x, s_rn x, s_ro x)
def su_mo (x : Sg) (v : Nat) : Sg := (s_n x, s_th x, s_m x, s_fe x, s_ln x, s_tx x, s_ov x, v, s_of x, s_la x, s_cr x, s_im x, s_kp x, s_rn x, s_ro x)
def su_of (x : Sg) (v : Nat) : Sg := (s_n x, s_th x, s_m x, s_fe x, s_ln x, s_tx x, s_ov x, s_mo x, v, s_la x, s_cr x, s_im x, s_kp x, s_rn x, s_ro x)
def su_la (x : Sg) (v : Bool) : Sg := (s_n x, s_th x, s_m x, s_fe x, s_ln x, s_tx x, s_ov x, s_mo x, s_of x, v, s_cr x, s_im x, s_kp x, s_rn x, s_ro x)
def su_cr (x : Sg) (v : Nat) : Sg := (s_n x, s_th x, s_m x, s_fe x, s_ln x, s_tx x, s_ov x, s_mo x, s_of x, s_la x, v, s_im x, s_kp x, s_rn x, s_ro x)
def su_im (x : Sg) (v : Nat → Nat) : Sg := (s_n x, s_th x, s_m x, s_fe x, s_ln x, s_tx x, s_ov x, s_mo x, s_of x, s_la x, s_cr x, v, s_kp x, s_rn x, s_ro x)
def su_kp (x : Sg) (v : Nat → Bool) : Sg := (s_n x, s_th x, s_m x, s_fe x, s_ln x, s_tx x, s_ov x, s_mo x, s_of x, s_la x, s_cr x, s_im x, v, s_rn x, s_ro x)
def su_rn (x : Sg) (v : Nat) : Sg := (s_n x, s_th x, s_m x, s_fe x, s_ln x, s_tx x, s_ov x, s_mo x, s_of x, s_la x, s_cr x, s_im x, s_kp x, v, s_ro x)
def su_ro (x : Sg) (v : Nat → Nat) : Sg := (s_n x, s_th x, s_m x, s_fe x, s_ln x, s_tx x, s_ov x, s_mo x, s_of x, s_la x, s_cr x, s_im x, s_kp x, s_rn x, v)
theorem s_ext {x y : Sg} (h0 : s_n x = s_n y) (h1 : s_th x = s_th y) (h2 : s_m x = s_m y) (h3 : s_fe x = s_fe y) (h4 : s_ln x = s_ln y) (h5 : s_tx x = s_tx y) (h6 : s_ov x = s_ov y) (h7 : s_mo x = s_mo y) (h8 : s_of x = s_of y) (h9 : s_la x = s_la y) (h10 : s_cr x = s_cr y) (h11 : s_im x = s_im y) (h12 : s_kp x = s_kp y) (h13 : s_rn x = s_rn y) (h14 : s_ro x = s_ro y) : x = y := by
  obtain ⟨x0, x1, x2, x3, x4, x5, x6, x7, x8, x9, x10, x11, x12, x13, x14⟩ := x
  obtain ⟨y0, y1, y2, y3, y4, y5, y6, y7, y8, y9, y10, y11, y12, y13, y14⟩ := y
  obtain rfl : x0 = y0 := h0
  obtain rfl : x1 = y1 := h1
  obtain rfl : x2 = y2 := h2
  obtain rfl : x3 = y3 := h3
  obtain rfl : x4 = y4 := h4
  obtain rfl : x5 = y5 := h5
  obtain rfl : x6 = y6 := h6
  obtain rfl : x7 = y7 := h7
  obtain rfl : x8 = y8 := h8
  obtain rfl : x9 = y9 := h9
  obtain rfl : x10 = y10 := h10
  obtain rfl : x11 = y11 := h11
  obtain rfl : x12 = y12 := h12
  obtain rfl : x13 = y13 := h13
  obtain rfl : x14 = y14 := h14
  rfl
abbrev Ms : Type := (Int32) × (Int32) × (Int64) × (Int32) × (Int32) × (Int32) × (Int32) × (Int32) × (Int32) × (Int32) × (Nat → Int32) × (Nat → Int32) × (Nat → Int32) × (Nat → Int32) × (Nat → Int32) × (Nat → Int32)
def m_po (x : Ms) : Int32 := x.1
def m_ta (x : Ms) : Int32 := x.2.1
def m_tk (x : Ms) : Int64 := x.2.2.1
def m_dg (x : Ms) : Int32 := x.2.2.2.1
def m_nu (x : Ms) : Int32 := x.2.2.2.2.1
def m_fa (x : Ms) : Int32 := x.2.2.2.2.2.1
def m_rm (x : Ms) : Int32 := x.2.2.2.2.2.2.1
def m_rt (x : Ms) : Int32 := x.2.2.2.2.2.2.2.1
def m_rf (x : Ms) : Int32 := x.2.2.2.2.2.2.2.2.1
def m_fo (x : Ms) : Int32 := x.2.2.2.2.2.2.2.2.2.1
def m_rk (x : Ms) : Nat → Int32 := x.2.2.2.2.2.2.2.2.2.2.1
def m_rd (x : Ms) : Nat → Int32 := x.2.2.2.2.2.2.2.2.2.2.2.1
def m_ma (x : Ms) : Nat → Int32 := x.2.2.2.2.2.2.2.2.2.2.2.2.1
def m_ah (x : Ms) : Nat → Int32 := x.2.2.2.2.2.2.2.2.2.2.2.2.2.1
def m_by (x : Ms) : Nat → Int32 := x.2.2.2.2.2.2.2.2.2.2.2.2.2.2.1
def m_li (x : Ms) : Nat → Int32 := x.2.2.2.2.2.2.2.2.2.2.2.2.2.2.2
def mu_po (x : Ms) (v : Int32) : Ms := (v, m_ta x, m_tk x, m_dg x, m_nu x, m_fa x, m_rm x, m_rt x, m_rf x, m_fo x, m_rk x, m_rd x, m_ma x, m_ah x, m_by x, m_li x)
def mu_ta (x : Ms) (v : Int32) : Ms := (m_po x, v, m_tk x, m_dg x, m_nu x, m_fa x, m_rm x, m_rt x, m_rf x, m_fo x, m_rk x, m_rd x, m_ma x, m_ah x, m_by x, m_li x)
def mu_tk (x : Ms) (v : Int64) : Ms := (m_po x, m_ta x, v, m_dg x, m_nu x, m_fa x, m_rm x, m_rt x, m_rf x, m_fo x, m_rk x, m_rd x, m_ma x, m_ah x, m_by x, m_li x)
def mu_dg (x : Ms) (v : Int32) : Ms := (m_po x, m_ta x, m_tk x, v, m_nu x, m_fa x, m_rm x, m_rt x, m_rf x, m_fo x, m_rk x, m_rd x, m_ma x, m_ah x, m_by x, m_li x)
def mu_nu (x : Ms) (v : Int32) : Ms := (m_po x, m_ta x, m_tk x, m_dg x, v, m_fa x, m_rm x, m_rt x, m_rf x, m_fo x, m_rk x, m_rd x, m_ma x, m_ah x, m_by x, m_li x)
def mu_fa (x : Ms) (v : Int32) : Ms := (m_po x, m_ta x, m_tk x, m_dg x, m_nu x, v, m_rm x, m_rt x, m_rf x, m_fo x, m_rk x, m_rd x, m_ma x, m_ah x, m_by x, m_li x)
def mu_rm (x : Ms) (v : Int32) : Ms := (m_po x, m_ta x, m_tk x, m_dg x, m_nu x, m_fa x, v, m_rt x, m_rf x, m_fo x, m_rk x, m_rd x, m_ma x, m_ah x, m_by x, m_li x)
def mu_rt (x : Ms) (v : Int32) : Ms := (m_po x, m_ta x, m_tk x, m_dg x, m_nu x, m_fa x, m_rm x, v, m_rf x, m_fo x, m_rk x, m_rd x, m_ma x, m_ah x, m_by x, m_li x)
def mu_rf (x : Ms) (v : Int32) : Ms := (m_po x, m_ta x, m_tk x, m_dg x, m_nu x, m_fa x, m_rm x, m_rt x, v, m_fo x, m_rk x, m_rd x, m_ma x, m_ah x, m_by x, m_li x)
def mu_fo (x : Ms) (v : Int32) : Ms := (m_po x, m_ta x, m_tk x, m_dg x, m_nu x, m_fa x, m_rm x, m_rt x, m_rf x, v, m_rk x, m_rd x, m_ma x, m_ah x, m_by x, m_li x)
def mu_rk (x : Ms) (v : Nat → Int32) : Ms := (m_po x, m_ta x, m_tk x, m_dg x, m_nu x, m_fa x, m_rm x, m_rt x, m_rf x, m_fo x, v, m_rd x, m_ma x, m_ah x, m_by x, m_li x)
def mu_rd (x : Ms) (v : Nat → Int32) : Ms := (m_po x, m_ta x, m_tk x, m_dg x, m_nu x, m_fa x, m_rm x, m_rt x, m_rf x, m_fo x, m_rk x, v, m_ma x, m_ah x, m_by x, m_li x)
def mu_ma (x : Ms) (v : Nat → Int32) : Ms := (m_po x, m_ta x, m_tk x, m_dg x, m_nu x, m_fa x, m_rm x, m_rt x, m_rf x, m_fo x, m_rk x, m_rd x, v, m_ah x, m_by x, m_li x)
def mu_ah (x : Ms) (v : Nat → Int32) : Ms := (m_po x, m_ta x, m_tk x, m_dg x, m_nu x, m_fa x, m_rm x, m_rt x, m_rf x, m_fo x, m_rk x, m_rd x, m_ma x, v, m_by x, m_li x)
def mu_by (x : Ms) (v : Nat → Int32) : Ms := (m_po x, m_ta x, m_tk x, m_dg x, m_nu x, m_fa x, m_rm x, m_rt x, m_rf x, m_fo x, m_rk x, m_rd x, m_ma x, m_ah x, v, m_li x)
def mu_li (x : Ms) (v : Nat → Int32) : Ms := (m_po x, m_ta x, m_tk x, m_dg x, m_nu x, m_fa x, m_rm x, m_rt x, m_rf x, m_fo x, m_rk x, m_rd x, m_ma x, m_ah x, m_by x, v)
theorem m_ext {x y : Ms} (h0 : m_po x = m_po y) (h1 : m_ta x = m_ta y) (h2 : m_tk x = m_tk y) (h3 : m_dg x = m_dg y) (h4 : m_nu x = m_nu y) (h5 : m_fa x = m_fa y) (h6 : m_rm x = m_rm y) (h7 : m_rt x = m_rt y) (h8 : m_rf x = m_rf y) (h9 : m_fo x = m_fo y) (h10 : m_rk x = m_rk y) (h11 : m_rd x = m_rd y) (h12 : m_ma x = m_ma y) (h13 : m_ah x = m_ah y) (h14 : m_by x = m_by y) (h15 : m_li x = m_li y) : x = y := by
  obtain ⟨x0, x1, x2, x3, x4, x5, x6, x7, x8, x9, x10, x11, x12, x13, x14, x15⟩ := x
  obtain ⟨y0, y1, y2, y3, y4, y5, y6, y7, y8, y9, y10, y11, y12, y13, y14, y15⟩ := y
  obtain rfl : x0 = y0 := h0
  obtain rfl : x1 = y1 := h1
  obtain rfl : x2 = y2 := h2
  obtain rfl : x3 = y3 := h3
  obtain rfl : x4 = y4 := h4
  obtain rfl : x5 = y5 := h5
  obtain rfl : x6 = y6 := h6
  obtain rfl : x7 = y7 := h7
  obtain rfl : x8 = y8 := h8
  obtain rfl : x9 = y9 := h9
  obtain rfl : x10 = y10 := h10
  obtain rfl : x11 = y11 := h11
  obtain rfl : x12 = y12 := h12
  obtain rfl : x13 = y13 := h13
  obtain rfl : x14 = y14 := h14
  obtain rfl : x15 = y15 := h15
  rfl
abbrev Js : Type := (Nat → Option Nat) × (Nat → Nat → Int32) × (Int32) × (Int32) × (Int32) × (Int32) × (Int32) × (Int32) × (Int32) × (Int32) × (Nat) × (Nat) × (Nat) × (Nat → Int32) × (Int32) × (Int32) × (Int32) × (Int32) × (Int32) × (Int32) × (Int32) × (Nat → Int32) × (Nat → Int32) × (Nat → Int32) × (Nat → Int32) × (Nat → Int32) × (Nat → Int32) × (Nat → Int32)
def j_lw (x : Js) : Nat → Option Nat := x.1
def j_nb (x : Js) : Nat → Nat → Int32 := x.2.1
def j_lc (x : Js) : Int32 := x.2.2.1
def j_fa (x : Js) : Int32 := x.2.2.2.1
def j_be (x : Js) : Int32 := x.2.2.2.2.1
def j_en (x : Js) : Int32 := x.2.2.2.2.2.1
def j_so (x : Js) : Int32 := x.2.2.2.2.2.2.1
def j_rt (x : Js) : Int32 := x.2.2.2.2.2.2.2.1
def j_rh (x : Js) : Int32 := x.2.2.2.2.2.2.2.2.1
def j_rf (x : Js) : Int32 := x.2.2.2.2.2.2.2.2.2.1
def j_pe (x : Js) : Nat := x.2.2.2.2.2.2.2.2.2.2.1
def j_wh (x : Js) : Nat := x.2.2.2.2.2.2.2.2.2.2.2.1
def j_us (x : Js) : Nat := x.2.2.2.2.2.2.2.2.2.2.2.2.1
def j_pb (x : Js) : Nat → Int32 := x.2.2.2.2.2.2.2.2.2.2.2.2.2.1
def j_hm (x : Js) : Int32 := x.2.2.2.2.2.2.2.2.2.2.2.2.2.2.1
def j_hs (x : Js) : Int32 := x.2.2.2.2.2.2.2.2.2.2.2.2.2.2.2.1
def j_le (x : Js) : Int32 := x.2.2.2.2.2.2.2.2.2.2.2.2.2.2.2.2.1
def j_mw (x : Js) : Int32 := x.2.2.2.2.2.2.2.2.2.2.2.2.2.2.2.2.2.1
def j_ms (x : Js) : Int32 := x.2.2.2.2.2.2.2.2.2.2.2.2.2.2.2.2.2.2.1
def j_ia (x : Js) : Int32 := x.2.2.2.2.2.2.2.2.2.2.2.2.2.2.2.2.2.2.2.1
def j_il (x : Js) : Int32 := x.2.2.2.2.2.2.2.2.2.2.2.2.2.2.2.2.2.2.2.2.1
def j_fi (x : Js) : Nat → Int32 := x.2.2.2.2.2.2.2.2.2.2.2.2.2.2.2.2.2.2.2.2.2.1
def j_fc (x : Js) : Nat → Int32 := x.2.2.2.2.2.2.2.2.2.2.2.2.2.2.2.2.2.2.2.2.2.2.1
def j_co (x : Js) : Nat → Int32 := x.2.2.2.2.2.2.2.2.2.2.2.2.2.2.2.2.2.2.2.2.2.2.2.1
def j_cb (x : Js) : Nat → Int32 := x.2.2.2.2.2.2.2.2.2.2.2.2.2.2.2.2.2.2.2.2.2.2.2.2.1
def j_wa (x : Js) : Nat → Int32 := x.2.2.2.2.2.2.2.2.2.2.2.2.2.2.2.2.2.2.2.2.2.2.2.2.2.1
def j_hd (x : Js) : Nat → Int32 := x.2.2.2.2.2.2.2.2.2.2.2.2.2.2.2.2.2.2.2.2.2.2.2.2.2.2.1
def j_tl (x : Js) : Nat → Int32 := x.2.2.2.2.2.2.2.2.2.2.2.2.2.2.2.2.2.2.2.2.2.2.2.2.2.2.2
def ju_lw (x : Js) (v : Nat → Option Nat) : Js := (v, j_nb x, j_lc x, j_fa x, j_be x, j_en x, j_so x, j_rt x, j_rh x, j_rf x, j_pe x, j_wh x, j_us x, j_pb x, j_hm x, j_hs x, j_le x, j_mw x, j_ms x, j_ia x, j_il x, j_fi x, j_fc x, j_co x, j_cb x, j_wa x, j_hd x, j_tl x)
def ju_nb (x : Js) (v : Nat → Nat → Int32) : Js := (j_lw x, v, j_lc x, j_fa x, j_be x, j_en x, j_so x, j_rt x, j_rh x, j_rf x, j_pe x, j_wh x, j_us x, j_pb x, j_hm x, j_hs x, j_le x, j_mw x, j_ms x, j_ia x, j_il x, j_fi x, j_fc x, j_co x, j_cb x, j_wa x, j_hd x, j_tl x)
def ju_lc (x : Js) (v : Int32) : Js := (j_lw x, j_nb x, v, j_fa x, j_be x, j_en x, j_so x, j_rt x, j_rh x, j_rf x, j_pe x, j_wh x, j_us x, j_pb x, j_hm x, j_hs x, j_le x, j_mw x, j_ms x, j_ia x, j_il x, j_fi x, j_fc x, j_co x, j_cb x, j_wa x, j_hd x, j_tl x)
def ju_fa (x : Js) (v : Int32) : Js := (j_lw x, j_nb x, j_lc x, v, j_be x, j_en x, j_so x, j_rt x, j_rh x, j_rf x, j_pe x, j_wh x, j_us x, j_pb x, j_hm x, j_hs x, j_le x, j_mw x, j_ms x, j_ia x, j_il x, j_fi x, j_fc x, j_co x, j_cb x, j_wa x, j_hd x, j_tl x)
def ju_be (x : Js) (v : Int32) : Js := (j_lw x, j_nb x, j_lc x, j_fa x, v, j_en x, j_so x, j_rt x, j_rh x, j_rf x, j_pe x, j_wh x, j_us x, j_pb x, j_hm x, j_hs x, j_le x, j_mw x, j_ms x, j_ia x, j_il x, j_fi x, j_fc x, j_co x, j_cb x, j_wa x, j_hd x, j_tl x)
def ju_en (x : Js) (v : Int32) : Js := (j_lw x, j_nb x, j_lc x, j_fa x, j_be x, v, j_so x, j_rt x, j_rh x, j_rf x, j_pe x, j_wh x, j_us x, j_pb x, j_hm x, j_hs x, j_le x, j_mw x, j_ms x, j_ia x, j_il x, j_fi x, j_fc x, j_co x, j_cb x, j_wa x, j_hd x, j_tl x)
def ju_so (x : Js) (v : Int32) : Js := (j_lw x, j_nb x, j_lc x, j_fa x, j_be x, j_en x, v, j_rt x, j_rh x, j_rf x, j_pe x, j_wh x, j_us x, j_pb x, j_hm x, j_hs x, j_le x, j_mw x, j_ms x, j_ia x, j_il x, j_fi x, j_fc x, j_co x, j_cb x, j_wa x, j_hd x, j_tl x)
def ju_rt (x : Js) (v : Int32) : Js := (j_lw x, j_nb x, j_lc x, j_fa x, j_be x, j_en x, j_so x, v, j_rh x, j_rf x, j_pe x, j_wh x, j_us x, j_pb x, j_hm x, j_hs x, j_le x, j_mw x, j_ms x, j_ia x, j_il x, j_fi x, j_fc x, j_co x, j_cb x, j_wa x, j_hd x, j_tl x)
def ju_rh (x : Js) (v : Int32) : Js := (j_lw x, j_nb x, j_lc x, j_fa x, j_be x, j_en x, j_so x, j_rt x, v, j_rf x, j_pe x, j_wh x, j_us x, j_pb x, j_hm x, j_hs x, j_le x, j_mw x, j_ms x, j_ia x, j_il x, j_fi x, j_fc x, j_co x, j_cb x, j_wa x, j_hd x, j_tl x)
def ju_rf (x : Js) (v : Int32) : Js := (j_lw x, j_nb x, j_lc x, j_fa x, j_be x, j_en x, j_so x, j_rt x, j_rh x, v, j_pe x, j_wh x, j_us x, j_pb x, j_hm x, j_hs x, j_le x, j_mw x, j_ms x, j_ia x, j_il x, j_fi x, j_fc x, j_co x, j_cb x, j_wa x, j_hd x, j_tl x)
def ju_pe (x : Js) (v : Nat) : Js := (j_lw x, j_nb x, j_lc x, j_fa x, j_be x, j_en x, j_so x, j_rt x, j_rh x, j_rf x, v, j_wh x, j_us x, j_pb x, j_hm x, j_hs x, j_le x, j_mw x, j_ms x, j_ia x, j_il x, j_fi x, j_fc x, j_co x, j_cb x, j_wa x, j_hd x, j_tl x)
def ju_wh (x : Js) (v : Nat) : Js := (j_lw x, j_nb x, j_lc x, j_fa x, j_be x, j_en x, j_so x, j_rt x, j_rh x, j_rf x, j_pe x, v, j_us x, j_pb x, j_hm x, j_hs x, j_le x, j_mw x, j_ms x, j_ia x, j_il x, j_fi x, j_fc x, j_co x, j_cb x, j_wa x, j_hd x, j_tl x)
def ju_us (x : Js) (v : Nat) : Js := (j_lw x, j_nb x, j_lc x, j_fa x, j_be x, j_en x, j_so x, j_rt x, j_rh x, j_rf x, j_pe x, j_wh x, v, j_pb x, j_hm x, j_hs x, j_le x, j_mw x, j_ms x, j_ia x, j_il x, j_fi x, j_fc x, j_co x, j_cb x, j_wa x, j_hd x, j_tl x)
def ju_pb (x : Js) (v : Nat → Int32) : Js := (j_lw x, j_nb x, j_lc x, j_fa x, j_be x, j_en x, j_so x, j_rt x, j_rh x, j_rf x, j_pe x, j_wh x, j_us x, v, j_hm x, j_hs x, j_le x, j_mw x, j_ms x, j_ia x, j_il x, j_fi x, j_fc x, j_co x, j_cb x, j_wa x, j_hd x, j_tl x)
def ju_hm (x : Js) (v : Int32) : Js := (j_lw x, j_nb x, j_lc x, j_fa x, j_be x, j_en x, j_so x, j_rt x, j_rh x, j_rf x, j_pe x, j_wh x, j_us x, j_pb x, v, j_hs x, j_le x, j_mw x, j_ms x, j_ia x, j_il x, j_fi x, j_fc x, j_co x, j_cb x, j_wa x, j_hd x, j_tl x)
def ju_hs (x : Js) (v : Int32) : Js := (j_lw x, j_nb x, j_lc x, j_fa x, j_be x, j_en x, j_so x, j_rt x, j_rh x, j_rf x, j_pe x, j_wh x, j_us x, j_pb x, j_hm x, v, j_le x, j_mw x, j_ms x, j_ia x, j_il x, j_fi x, j_fc x, j_co x, j_cb x, j_wa x, j_hd x, j_tl x)
def ju_le (x : Js) (v : Int32) : Js := (j_lw x, j_nb x, j_lc x, j_fa x, j_be x, j_en x, j_so x, j_rt x, j_rh x, j_rf x, j_pe x, j_wh x, j_us x, j_pb x, j_hm x, j_hs x, v, j_mw x, j_ms x, j_ia x, j_il x, j_fi x, j_fc x, j_co x, j_cb x, j_wa x, j_hd x, j_tl x)
def ju_mw (x : Js) (v : Int32) : Js := (j_lw x, j_nb x, j_lc x, j_fa x, j_be x, j_en x, j_so x, j_rt x, j_rh x, j_rf x, j_pe x, j_wh x, j_us x, j_pb x, j_hm x, j_hs x, j_le x, v, j_ms x, j_ia x, j_il x, j_fi x, j_fc x, j_co x, j_cb x, j_wa x, j_hd x, j_tl x)
def ju_ms (x : Js) (v : Int32) : Js := (j_lw x, j_nb x, j_lc x, j_fa x, j_be x, j_en x, j_so x, j_rt x, j_rh x, j_rf x, j_pe x, j_wh x, j_us x, j_pb x, j_hm x, j_hs x, j_le x, j_mw x, v, j_ia x, j_il x, j_fi x, j_fc x, j_co x, j_cb x, j_wa x, j_hd x, j_tl x)
def ju_ia (x : Js) (v : Int32) : Js := (j_lw x, j_nb x, j_lc x, j_fa x, j_be x, j_en x, j_so x, j_rt x, j_rh x, j_rf x, j_pe x, j_wh x, j_us x, j_pb x, j_hm x, j_hs x, j_le x, j_mw x, j_ms x, v, j_il x, j_fi x, j_fc x, j_co x, j_cb x, j_wa x, j_hd x, j_tl x)
def ju_il (x : Js) (v : Int32) : Js := (j_lw x, j_nb x, j_lc x, j_fa x, j_be x, j_en x, j_so x, j_rt x, j_rh x, j_rf x, j_pe x, j_wh x, j_us x, j_pb x, j_hm x, j_hs x, j_le x, j_mw x, j_ms x, j_ia x, v, j_fi x, j_fc x, j_co x, j_cb x, j_wa x, j_hd x, j_tl x)
def ju_fi (x : Js) (v : Nat → Int32) : Js := (j_lw x, j_nb x, j_lc x, j_fa x, j_be x, j_en x, j_so x, j_rt x, j_rh x, j_rf x, j_pe x, j_wh x, j_us x, j_pb x, j_hm x, j_hs x, j_le x, j_mw x, j_ms x, j_ia x, j_il x, v, j_fc x, j_co x, j_cb x, j_wa x, j_hd x, j_tl x)
def ju_fc (x : Js) (v : Nat → Int32) : Js := (j_lw x, j_nb x, j_lc x, j_fa x, j_be x, j_en x, j_so x, j_rt x, j_rh x, j_rf x, j_pe x, j_wh x, j_us x, j_pb x, j_hm x, j_hs x, j_le x, j_mw x, j_ms x, j_ia x, j_il x, j_fi x, v, j_co x, j_cb x, j_wa x, j_hd x, j_tl x)
def ju_co (x : Js) (v : Nat → Int32) : Js := (j_lw x, j_nb x, j_lc x, j_fa x, j_be x, j_en x, j_so x, j_rt x, j_rh x, j_rf x, j_pe x, j_wh x, j_us x, j_pb x, j_hm x, j_hs x, j_le x, j_mw x, j_ms x, j_ia x, j_il x, j_fi x, j_fc x, v, j_cb x, j_wa x, j_hd x, j_tl x)
def ju_cb (x : Js) (v : Nat → Int32) : Js := (j_lw x, j_nb x, j_lc x, j_fa x, j_be x, j_en x, j_so x, j_rt x, j_rh x, j_rf x, j_pe x, j_wh x, j_us x, j_pb x, j_hm x, j_hs x, j_le x, j_mw x, j_ms x, j_ia x, j_il x, j_fi x, j_fc x, j_co x, v, j_wa x, j_hd x, j_tl x)
def ju_wa (x : Js) (v : Nat → Int32) : Js := (j_lw x, j_nb x, j_lc x, j_fa x, j_be x, j_en x, j_so x, j_rt x, j_rh x, j_rf x, j_pe x, j_wh x, j_us x, j_pb x, j_hm x, j_hs x, j_le x, j_mw x, j_ms x, j_ia x, j_il x, j_fi x, j_fc x, j_co x, j_cb x, v, j_hd x, j_tl x)
def ju_hd (x : Js) (v : Nat → Int32) : Js := (j_lw x, j_nb x, j_lc x, j_fa x, j_be x, j_en x, j_so x, j_rt x, j_rh x, j_rf x, j_pe x, j_wh x, j_us x, j_pb x, j_hm x, j_hs x, j_le x, j_mw x, j_ms x, j_ia x, j_il x, j_fi x, j_fc x, j_co x, j_cb x, j_wa x, v, j_tl x)
def ju_tl (x : Js) (v : Nat → Int32) : Js := (j_lw x, j_nb x, j_lc x, j_fa x, j_be x, j_en x, j_so x, j_rt x, j_rh x, j_rf x, j_pe x, j_wh x, j_us x, j_pb x, j_hm x, j_hs x, j_le x, j_mw x, j_ms x, j_ia x, j_il x, j_fi x, j_fc x, j_co x, j_cb x, j_wa x, j_hd x, v)
theorem j_ext {x y : Js} (h0 : j_lw x = j_lw y) (h1 : j_nb x = j_nb y) (h2 : j_lc x = j_lc y) (h3 : j_fa x = j_fa y) (h4 : j_be x = j_be y) (h5 : j_en x = j_en y) (h6 : j_so x = j_so y) (h7 : j_rt x = j_rt y) (h8 : j_rh x = j_rh y) (h9 : j_rf x = j_rf y) (h10 : j_pe x = j_pe y) (h11 : j_wh x = j_wh y) (h12 : j_us x = j_us y) (h13 : j_pb x = j_pb y) (h14 : j_hm x = j_hm y) (h15 : j_hs x = j_hs y) (h16 : j_le x = j_le y) (h17 : j_mw x = j_mw y) (h18 : j_ms x = j_ms y) (h19 : j_ia x = j_ia y) (h20 : j_il x = j_il y) (h21 : j_fi x = j_fi y) (h22 : j_fc x = j_fc y) (h23 : j_co x = j_co y) (h24 : j_cb x = j_cb y) (h25 : j_wa x = j_wa y) (h26 : j_hd x = j_hd y) (h27 : j_tl x = j_tl y) : x = y := by
  obtain ⟨x0, x1, x2, x3, x4, x5, x6, x7, x8, x9, x10, x11, x12, x13, x14, x15, x16, x17, x18, x19, x20, x21, x22, x23, x24, x25, x26, x27⟩ := x
  obtain ⟨y0, y1, y2, y3, y4, y5, y6, y7, y8, y9, y10, y11, y12, y13, y14, y15, y16, y17, y18, y19, y20, y21, y22, y23, y24, y25, y26, y27⟩ := y
  obtain rfl : x0 = y0 := h0
  obtain rfl : x1 = y1 := h1
  obtain rfl : x2 = y2 := h2
  obtain rfl : x3 = y3 := h3
  obtain rfl : x4 = y4 := h4
  obtain rfl : x5 = y5 := h5
  obtain rfl : x6 = y6 := h6
  obtain rfl : x7 = y7 := h7
  obtain rfl : x8 = y8 := h8
  obtain rfl : x9 = y9 := h9
  obtain rfl : x10 = y10 := h10
  obtain rfl : x11 = y11 := h11
  obtain rfl : x12 = y12 := h12
  obtain rfl : x13 = y13 := h13
  obtain rfl : x14 = y14 := h14
  obtain rfl : x15 = y15 := h15
  obtain rfl : x16 = y16 := h16
  obtain rfl : x17 = y17 := h17
  obtain rfl : x18 = y18 := h18
  obtain rfl : x19 = y19 := h19
  obtain rfl : x20 = y20 := h20
  obtain rfl : x21 = y21 := h21
  obtain rfl : x22 = y22 := h22
  obtain rfl : x23 = y23 := h23
  obtain rfl : x24 = y24 := h24
  obtain rfl : x25 = y25 := h25
  obtain rfl : x26 = y26 := h26
  obtain rfl : x27 = y27 := h27
  rfl
def updN (f : Nat → Nat) (k v : Nat) : Nat → Nat := fun j => if j = k then v else f j
def updB (f : Nat → Bool) (k : Nat) (v : Bool) : Nat → Bool := fun j => if j = k then v else f j
def updA (f : Nat → Nat → Int32) (k : Nat) (v : Nat → Int32) : Nat → Nat → Int32 := fun j => if j = k then v else f j
def updO (f : Nat → Option Nat) (k : Nat) (v : Option Nat) : Nat → Option Nat := fun j => if j = k then v else f j
theorem upd_nI (f : Nat → Nat) (k v : Nat) : upd (fun i => nI (f i)) k (nI v) = fun i => nI (updN f k v i) := by funext j; unfold upd updN; split <;> rfl
theorem upd_bI (f : Nat → Bool) (k : Nat) (v : Bool) : upd (fun i => bI (f i)) k (bI v) = fun i => bI (updB f k v i) := by funext j; unfold upd updB; split <;> rfl
def mfs (ad : Nat → Nat) (σ : Sg) (T : Ms) : List Value := [.int (nI (s_n σ)), .ref (ad 1), .int (nI (s_m σ)), .ref (ad 2), .int (nI (s_ln σ)), .ref (ad 3), .int (m_po T), .int (m_ta T), .long (m_tk T), .int (m_dg T), .int (m_nu T), .int (m_fa T), .int (m_rm T), .int (m_rt T), .int (m_rf T), .ref (ad 4), .ref (ad 5), .int (nI (s_ov σ)), .int (nI (s_mo σ)), .int (nI (s_of σ)), .int (bI (s_la σ)), .int (nI (s_cr σ)), .ref (ad 6), .ref (ad 7), .int (nI (s_rn σ)), .ref (ad 8), .ref (ad 9), .ref (ad 10), .ref (ad 11), .ref (ad 12), .int (m_fo T)]
def mw (cy : Nat → ClassId) (ad : Nat → Nat) (σ : Sg) (T : Ms) : va_W := [(ad 0, .inr (10, mfs ad σ T)),
  (ad 1, .inl (cy 0, 48, .inl (fun i => nI (s_th σ i)))),
  (ad 2, .inl (cy 0, 15, .inl (fun i => nI (s_fe σ i)))),
  (ad 3, .inl (cy 0, 200, .inl (fun i => nI (s_tx σ i)))),
  (ad 4, .inl (cy 0, 8, .inl (m_rk T))),
  (ad 5, .inl (cy 0, 60, .inl (m_rd T))),
  (ad 6, .inl (cy 0, 10, .inl (fun i => nI (s_im σ i)))),
  (ad 7, .inl (cy 1, 2, .inl (fun i => bI (s_kp σ i)))),
  (ad 8, .inl (cy 0, 24, .inl (fun i => nI (s_ro σ i)))),
  (ad 9, .inl (cy 0, 2048, .inl (m_ma T))),
  (ad 10, .inl (cy 0, 2048, .inl (m_ah T))),
  (ad 11, .inl (cy 0, 2048, .inl (m_by T))),
  (ad 12, .inl (cy 0, 2048, .inl (m_li T)))]
theorem mw_c0 (cy : Nat → ClassId) (ad : Nat → Nat) (σ : Sg) (T : Ms) : (mw cy ad σ T)[0]? = some (ad 0, .inr (10, mfs ad σ T)) := rfl
theorem mw_c1 (cy : Nat → ClassId) (ad : Nat → Nat) (σ : Sg) (T : Ms) : (mw cy ad σ T)[1]? = some (ad 1, .inl (cy 0, 48, .inl (fun i => nI (s_th σ i)))) := rfl
theorem mw_c2 (cy : Nat → ClassId) (ad : Nat → Nat) (σ : Sg) (T : Ms) : (mw cy ad σ T)[2]? = some (ad 2, .inl (cy 0, 15, .inl (fun i => nI (s_fe σ i)))) := rfl
theorem mw_c3 (cy : Nat → ClassId) (ad : Nat → Nat) (σ : Sg) (T : Ms) : (mw cy ad σ T)[3]? = some (ad 3, .inl (cy 0, 200, .inl (fun i => nI (s_tx σ i)))) := rfl
theorem mw_c4 (cy : Nat → ClassId) (ad : Nat → Nat) (σ : Sg) (T : Ms) : (mw cy ad σ T)[4]? = some (ad 4, .inl (cy 0, 8, .inl (m_rk T))) := rfl
theorem mw_c5 (cy : Nat → ClassId) (ad : Nat → Nat) (σ : Sg) (T : Ms) : (mw cy ad σ T)[5]? = some (ad 5, .inl (cy 0, 60, .inl (m_rd T))) := rfl
theorem mw_c6 (cy : Nat → ClassId) (ad : Nat → Nat) (σ : Sg) (T : Ms) : (mw cy ad σ T)[6]? = some (ad 6, .inl (cy 0, 10, .inl (fun i => nI (s_im σ i)))) := rfl
theorem mw_c7 (cy : Nat → ClassId) (ad : Nat → Nat) (σ : Sg) (T : Ms) : (mw cy ad σ T)[7]? = some (ad 7, .inl (cy 1, 2, .inl (fun i => bI (s_kp σ i)))) := rfl
theorem mw_c8 (cy : Nat → ClassId) (ad : Nat → Nat) (σ : Sg) (T : Ms) : (mw cy ad σ T)[8]? = some (ad 8, .inl (cy 0, 24, .inl (fun i => nI (s_ro σ i)))) := rfl
theorem mw_c9 (cy : Nat → ClassId) (ad : Nat → Nat) (σ : Sg) (T : Ms) : (mw cy ad σ T)[9]? = some (ad 9, .inl (cy 0, 2048, .inl (m_ma T))) := rfl
theorem mw_c10 (cy : Nat → ClassId) (ad : Nat → Nat) (σ : Sg) (T : Ms) : (mw cy ad σ T)[10]? = some (ad 10, .inl (cy 0, 2048, .inl (m_ah T))) := rfl
theorem mw_c11 (cy : Nat → ClassId) (ad : Nat → Nat) (σ : Sg) (T : Ms) : (mw cy ad σ T)[11]? = some (ad 11, .inl (cy 0, 2048, .inl (m_by T))) := rfl
theorem mw_c12 (cy : Nat → ClassId) (ad : Nat → Nat) (σ : Sg) (T : Ms) : (mw cy ad σ T)[12]? = some (ad 12, .inl (cy 0, 2048, .inl (m_li T))) := rfl
theorem mp_0_0 (cy : Nat → ClassId) (ad : Nat → Nat) (σ : Sg) (T : Ms) (v : Nat) : (mw cy ad σ T).set 0 (ad 0, .inr (10, (mfs ad σ T).set 0 (.int (nI v)))) = mw cy ad (su_n σ v) T := rfl
theorem mp_0_2 (cy : Nat → ClassId) (ad : Nat → Nat) (σ : Sg) (T : Ms) (v : Nat) : (mw cy ad σ T).set 0 (ad 0, .inr (10, (mfs ad σ T).set 2 (.int (nI v)))) = mw cy ad (su_m σ v) T := rfl
theorem mp_0_4 (cy : Nat → ClassId) (ad : Nat → Nat) (σ : Sg) (T : Ms) (v : Nat) : (mw cy ad σ T).set 0 (ad 0, .inr (10, (mfs ad σ T).set 4 (.int (nI v)))) = mw cy ad (su_ln σ v) T := rfl
theorem mp_0_6 (cy : Nat → ClassId) (ad : Nat → Nat) (σ : Sg) (T : Ms) (v : Int32) : (mw cy ad σ T).set 0 (ad 0, .inr (10, (mfs ad σ T).set 6 (.int v))) = mw cy ad σ (mu_po T v) := rfl
theorem mp_0_7 (cy : Nat → ClassId) (ad : Nat → Nat) (σ : Sg) (T : Ms) (v : Int32) : (mw cy ad σ T).set 0 (ad 0, .inr (10, (mfs ad σ T).set 7 (.int v))) = mw cy ad σ (mu_ta T v) := rfl
theorem mp_0_8 (cy : Nat → ClassId) (ad : Nat → Nat) (σ : Sg) (T : Ms) (v : Int64) : (mw cy ad σ T).set 0 (ad 0, .inr (10, (mfs ad σ T).set 8 (.long v))) = mw cy ad σ (mu_tk T v) := rfl
theorem mp_0_9 (cy : Nat → ClassId) (ad : Nat → Nat) (σ : Sg) (T : Ms) (v : Int32) : (mw cy ad σ T).set 0 (ad 0, .inr (10, (mfs ad σ T).set 9 (.int v))) = mw cy ad σ (mu_dg T v) := rfl
theorem mp_0_10 (cy : Nat → ClassId) (ad : Nat → Nat) (σ : Sg) (T : Ms) (v : Int32) : (mw cy ad σ T).set 0 (ad 0, .inr (10, (mfs ad σ T).set 10 (.int v))) = mw cy ad σ (mu_nu T v) := rfl
theorem mp_0_11 (cy : Nat → ClassId) (ad : Nat → Nat) (σ : Sg) (T : Ms) (v : Int32) : (mw cy ad σ T).set 0 (ad 0, .inr (10, (mfs ad σ T).set 11 (.int v))) = mw cy ad σ (mu_fa T v) := rfl
theorem mp_0_12 (cy : Nat → ClassId) (ad : Nat → Nat) (σ : Sg) (T : Ms) (v : Int32) : (mw cy ad σ T).set 0 (ad 0, .inr (10, (mfs ad σ T).set 12 (.int v))) = mw cy ad σ (mu_rm T v) := rfl
theorem mp_0_13 (cy : Nat → ClassId) (ad : Nat → Nat) (σ : Sg) (T : Ms) (v : Int32) : (mw cy ad σ T).set 0 (ad 0, .inr (10, (mfs ad σ T).set 13 (.int v))) = mw cy ad σ (mu_rt T v) := rfl
theorem mp_0_14 (cy : Nat → ClassId) (ad : Nat → Nat) (σ : Sg) (T : Ms) (v : Int32) : (mw cy ad σ T).set 0 (ad 0, .inr (10, (mfs ad σ T).set 14 (.int v))) = mw cy ad σ (mu_rf T v) := rfl
theorem mp_0_17 (cy : Nat → ClassId) (ad : Nat → Nat) (σ : Sg) (T : Ms) (v : Nat) : (mw cy ad σ T).set 0 (ad 0, .inr (10, (mfs ad σ T).set 17 (.int (nI v)))) = mw cy ad (su_ov σ v) T := rfl
theorem mp_0_18 (cy : Nat → ClassId) (ad : Nat → Nat) (σ : Sg) (T : Ms) (v : Nat) : (mw cy ad σ T).set 0 (ad 0, .inr (10, (mfs ad σ T).set 18 (.int (nI v)))) = mw cy ad (su_mo σ v) T := rfl
theorem mp_0_19 (cy : Nat → ClassId) (ad : Nat → Nat) (σ : Sg) (T : Ms) (v : Nat) : (mw cy ad σ T).set 0 (ad 0, .inr (10, (mfs ad σ T).set 19 (.int (nI v)))) = mw cy ad (su_of σ v) T := rfl
theorem mp_0_20 (cy : Nat → ClassId) (ad : Nat → Nat) (σ : Sg) (T : Ms) (v : Bool) : (mw cy ad σ T).set 0 (ad 0, .inr (10, (mfs ad σ T).set 20 (.int (bI v)))) = mw cy ad (su_la σ v) T := rfl
theorem mp_0_21 (cy : Nat → ClassId) (ad : Nat → Nat) (σ : Sg) (T : Ms) (v : Nat) : (mw cy ad σ T).set 0 (ad 0, .inr (10, (mfs ad σ T).set 21 (.int (nI v)))) = mw cy ad (su_cr σ v) T := rfl
theorem mp_0_24 (cy : Nat → ClassId) (ad : Nat → Nat) (σ : Sg) (T : Ms) (v : Nat) : (mw cy ad σ T).set 0 (ad 0, .inr (10, (mfs ad σ T).set 24 (.int (nI v)))) = mw cy ad (su_rn σ v) T := rfl
theorem mp_0_30 (cy : Nat → ClassId) (ad : Nat → Nat) (σ : Sg) (T : Ms) (v : Int32) : (mw cy ad σ T).set 0 (ad 0, .inr (10, (mfs ad σ T).set 30 (.int v))) = mw cy ad σ (mu_fo T v) := rfl
theorem mp_1 (cy : Nat → ClassId) (ad : Nat → Nat) (σ : Sg) (T : Ms) (i v : Nat) : (mw cy ad σ T).set 1 (ad 1, .inl (cy 0, 48, .inl (upd (fun i => nI (s_th σ i)) i (nI v)))) = mw cy ad (su_th σ (updN (s_th σ) i v)) T := by rw [upd_nI]; rfl
theorem mp_2 (cy : Nat → ClassId) (ad : Nat → Nat) (σ : Sg) (T : Ms) (i v : Nat) : (mw cy ad σ T).set 2 (ad 2, .inl (cy 0, 15, .inl (upd (fun i => nI (s_fe σ i)) i (nI v)))) = mw cy ad (su_fe σ (updN (s_fe σ) i v)) T := by rw [upd_nI]; rfl
theorem mp_3 (cy : Nat → ClassId) (ad : Nat → Nat) (σ : Sg) (T : Ms) (i v : Nat) : (mw cy ad σ T).set 3 (ad 3, .inl (cy 0, 200, .inl (upd (fun i => nI (s_tx σ i)) i (nI v)))) = mw cy ad (su_tx σ (updN (s_tx σ) i v)) T := by rw [upd_nI]; rfl
theorem mp_4 (cy : Nat → ClassId) (ad : Nat → Nat) (σ : Sg) (T : Ms) (i : Nat) (v : Int32) : (mw cy ad σ T).set 4 (ad 4, .inl (cy 0, 8, .inl (upd (m_rk T) i v))) = mw cy ad σ (mu_rk T (upd (m_rk T) i v)) := rfl
theorem mp_5 (cy : Nat → ClassId) (ad : Nat → Nat) (σ : Sg) (T : Ms) (i : Nat) (v : Int32) : (mw cy ad σ T).set 5 (ad 5, .inl (cy 0, 60, .inl (upd (m_rd T) i v))) = mw cy ad σ (mu_rd T (upd (m_rd T) i v)) := rfl
theorem mp_6 (cy : Nat → ClassId) (ad : Nat → Nat) (σ : Sg) (T : Ms) (i v : Nat) : (mw cy ad σ T).set 6 (ad 6, .inl (cy 0, 10, .inl (upd (fun i => nI (s_im σ i)) i (nI v)))) = mw cy ad (su_im σ (updN (s_im σ) i v)) T := by rw [upd_nI]; rfl
theorem mp_7 (cy : Nat → ClassId) (ad : Nat → Nat) (σ : Sg) (T : Ms) (i : Nat) (v : Bool) : (mw cy ad σ T).set 7 (ad 7, .inl (cy 1, 2, .inl (upd (fun i => bI (s_kp σ i)) i (bI v)))) = mw cy ad (su_kp σ (updB (s_kp σ) i v)) T := by rw [upd_bI]; rfl
theorem mp_8 (cy : Nat → ClassId) (ad : Nat → Nat) (σ : Sg) (T : Ms) (i v : Nat) : (mw cy ad σ T).set 8 (ad 8, .inl (cy 0, 24, .inl (upd (fun i => nI (s_ro σ i)) i (nI v)))) = mw cy ad (su_ro σ (updN (s_ro σ) i v)) T := by rw [upd_nI]; rfl
theorem mp_9 (cy : Nat → ClassId) (ad : Nat → Nat) (σ : Sg) (T : Ms) (i : Nat) (v : Int32) : (mw cy ad σ T).set 9 (ad 9, .inl (cy 0, 2048, .inl (upd (m_ma T) i v))) = mw cy ad σ (mu_ma T (upd (m_ma T) i v)) := rfl
theorem mp_10 (cy : Nat → ClassId) (ad : Nat → Nat) (σ : Sg) (T : Ms) (i : Nat) (v : Int32) : (mw cy ad σ T).set 10 (ad 10, .inl (cy 0, 2048, .inl (upd (m_ah T) i v))) = mw cy ad σ (mu_ah T (upd (m_ah T) i v)) := rfl
theorem mp_11 (cy : Nat → ClassId) (ad : Nat → Nat) (σ : Sg) (T : Ms) (i : Nat) (v : Int32) : (mw cy ad σ T).set 11 (ad 11, .inl (cy 0, 2048, .inl (upd (m_by T) i v))) = mw cy ad σ (mu_by T (upd (m_by T) i v)) := rfl
theorem mp_12 (cy : Nat → ClassId) (ad : Nat → Nat) (σ : Sg) (T : Ms) (i : Nat) (v : Int32) : (mw cy ad σ T).set 12 (ad 12, .inl (cy 0, 2048, .inl (upd (m_li T) i v))) = mw cy ad σ (mu_li T (upd (m_li T) i v)) := rfl
theorem mw_ad (cy : Nat → ClassId) (ad : Nat → Nat) (σ : Sg) (T : Ms) : (mw cy ad σ T).map (·.1) = (List.range 13).map ad := rfl
def cf0 (ad : Nat → Nat) (σ : Sg) (J : Js) : List Value := [.ref (ad 1), .ref (ad 3), .ref (ad 8), .ref (ad 10), .ref (ad 11), .ref (ad 19), .ref (ad 20), .int (nI (s_rn σ))]
def cf1 (ad : Nat → Nat) (σ : Sg) (J : Js) : List Value := [.ref (ad 2), .int (nI (s_ln σ))]
def cf3 (ad : Nat → Nat) (σ : Sg) (J : Js) : List Value := [.ref (ad 4), .ref (ad 5), .ref (ad 6), .int (nI (s_n σ)), .int (nI (s_m σ)), .int (nI (j_pe J)), .int (nI (j_wh J)), .int (nI (j_us J)), .ref (ad 7)]
def cf6 (ad : Nat → Nat) (σ : Sg) (J : Js) : List Value := [.int 0, .int (nI (s_ov σ + 256 * s_mo σ)), .int (nI (s_of σ)), .int (bI (s_la σ)), .int (nI (s_cr σ))]
def cf8 (ad : Nat → Nat) (σ : Sg) (J : Js) : List Value := [.ref (ad 9), .int (j_lc J), .int (j_fa J), .ref (ad 1), .ref (ad 3), .int (j_be J), .int (j_en J), .int (j_so J), .int (j_rt J), .int (j_rh J), .int (j_rf J)]
def cf10 (ad : Nat → Nat) (σ : Sg) (J : Js) : List Value := [.ref (ad 3), .int (j_hm J), .int (j_hs J), .int (j_le J), .int (j_mw J), .int (j_ms J), .int (j_ia J), .int (j_il J)]
def cf11 (ad : Nat → Nat) (σ : Sg) (J : Js) : List Value := [.ref (ad 3), .ref (ad 12), .ref (ad 13), .ref (ad 14), .ref (ad 15), .ref (ad 16), .ref (ad 17), .ref (ad 18)]
def cf_thing (ad aw : Nat → Nat) (σ : Sg) (J : Js) (t : Nat) : List Value := [.int (nI (s_th σ (6 * t))), .int (nI (s_th σ (6 * t + 1))), .int (nI (s_th σ (6 * t + 2))), .int (nI (s_th σ (6 * t + 3))), .int (nI (s_th σ (6 * t + 4))), .int (nI (s_th σ (6 * t + 5)))]
def cf_ferry (ad aw : Nat → Nat) (σ : Sg) (J : Js) (t : Nat) : List Value := [.int (nI (s_fe σ (5 * t))), .int (nI (s_fe σ (5 * t + 1))), .int (nI (s_fe σ (5 * t + 2))), .int (nI (s_fe σ (5 * t + 3))), .int (nI (s_fe σ (5 * t + 4)))]
def cf_kept (ad aw : Nat → Nat) (σ : Sg) (J : Js) (t : Nat) : List Value := [.int (bI (s_kp σ t)), .int (nI (s_im σ (5 * t) + 256 * s_im σ (5 * t + 1))), .int (nI (s_im σ (5 * t + 2))), .int (nI (s_im σ (5 * t + 3))), .int (nI (s_im σ (5 * t + 4)))]
def cf_line (ad aw : Nat → Nat) (σ : Sg) (J : Js) (t : Nat) : List Value := [va_re aw (j_lw J t), .ref (ad (46 + t))]
def cw (cy : Nat → ClassId) (ad aw : Nat → Nat) (σ : Sg) (J : Js) : va_W := [(ad 0, .inr (9, cf0 ad σ J)),
  (ad 1, .inr (7, cf1 ad σ J)),
  (ad 2, .inl (cy 0, 200, .inl (fun i => nI (s_tx σ i)))),
  (ad 3, .inr (3, cf3 ad σ J)),
  (ad 4, .inl (cy 5, 8, .inr (.inr (.inr (.inr (fun i => some (ad (21 + i)))))))),
  (ad 5, .inl (cy 2, 3, .inr (.inr (.inr (.inr (fun i => some (ad (29 + i)))))))),
  (ad 6, .inr (5, cf6 ad σ J)),
  (ad 7, .inl (cy 0, 256, .inl (j_pb J))),
  (ad 8, .inr (2, cf8 ad σ J)),
  (ad 9, .inl (cy 3, 12, .inr (.inr (.inr (.inr (fun i => some (ad (34 + i)))))))),
  (ad 10, .inr (6, cf10 ad σ J)),
  (ad 11, .inr (4, cf11 ad σ J)),
  (ad 12, .inl (cy 0, 768, .inl (j_fi J))),
  (ad 13, .inl (cy 0, 3, .inl (j_fc J))),
  (ad 14, .inl (cy 0, 2048, .inl (j_co J))),
  (ad 15, .inl (cy 0, 2048, .inl (j_cb J))),
  (ad 16, .inl (cy 0, 6144, .inl (j_wa J))),
  (ad 17, .inl (cy 0, 3, .inl (j_hd J))),
  (ad 18, .inl (cy 0, 3, .inl (j_tl J))),
  (ad 19, .inl (cy 4, 2, .inr (.inr (.inr (.inr (fun i => some (ad (32 + i)))))))),
  (ad 20, .inl (cy 0, 12, .inl (fun i => nI (256 * s_ro σ (2 * i) + s_ro σ (2 * i + 1))))),
  (ad 21, .inr (8, cf_thing ad aw σ J 0)),
  (ad 22, .inr (8, cf_thing ad aw σ J 1)),
  (ad 23, .inr (8, cf_thing ad aw σ J 2)),
  (ad 24, .inr (8, cf_thing ad aw σ J 3)),
  (ad 25, .inr (8, cf_thing ad aw σ J 4)),
  (ad 26, .inr (8, cf_thing ad aw σ J 5)),
  (ad 27, .inr (8, cf_thing ad aw σ J 6)),
  (ad 28, .inr (8, cf_thing ad aw σ J 7)),
  (ad 29, .inr (0, cf_ferry ad aw σ J 0)),
  (ad 30, .inr (0, cf_ferry ad aw σ J 1)),
  (ad 31, .inr (0, cf_ferry ad aw σ J 2)),
  (ad 32, .inr (5, cf_kept ad aw σ J 0)),
  (ad 33, .inr (5, cf_kept ad aw σ J 1)),
  (ad 34, .inr (1, cf_line ad aw σ J 0)),
  (ad 35, .inr (1, cf_line ad aw σ J 1)),
  (ad 36, .inr (1, cf_line ad aw σ J 2)),
  (ad 37, .inr (1, cf_line ad aw σ J 3)),
  (ad 38, .inr (1, cf_line ad aw σ J 4)),
  (ad 39, .inr (1, cf_line ad aw σ J 5)),
  (ad 40, .inr (1, cf_line ad aw σ J 6)),
  (ad 41, .inr (1, cf_line ad aw σ J 7)),
  (ad 42, .inr (1, cf_line ad aw σ J 8)),
  (ad 43, .inr (1, cf_line ad aw σ J 9)),
  (ad 44, .inr (1, cf_line ad aw σ J 10)),
  (ad 45, .inr (1, cf_line ad aw σ J 11)),
  (ad 46, .inl (cy 0, 4, .inl (j_nb J 0))),
  (ad 47, .inl (cy 0, 4, .inl (j_nb J 1))),
  (ad 48, .inl (cy 0, 4, .inl (j_nb J 2))),
  (ad 49, .inl (cy 0, 4, .inl (j_nb J 3))),
  (ad 50, .inl (cy 0, 4, .inl (j_nb J 4))),
  (ad 51, .inl (cy 0, 4, .inl (j_nb J 5))),
  (ad 52, .inl (cy 0, 4, .inl (j_nb J 6))),
  (ad 53, .inl (cy 0, 4, .inl (j_nb J 7))),
  (ad 54, .inl (cy 0, 4, .inl (j_nb J 8))),
  (ad 55, .inl (cy 0, 4, .inl (j_nb J 9))),
  (ad 56, .inl (cy 0, 4, .inl (j_nb J 10))),
  (ad 57, .inl (cy 0, 4, .inl (j_nb J 11)))]
theorem cw_c0 (cy : Nat → ClassId) (ad aw : Nat → Nat) (σ : Sg) (J : Js) : (cw cy ad aw σ J)[0]? = some (ad 0, .inr (9, cf0 ad σ J)) := rfl
theorem cw_c1 (cy : Nat → ClassId) (ad aw : Nat → Nat) (σ : Sg) (J : Js) : (cw cy ad aw σ J)[1]? = some (ad 1, .inr (7, cf1 ad σ J)) := rfl
theorem cw_c2 (cy : Nat → ClassId) (ad aw : Nat → Nat) (σ : Sg) (J : Js) : (cw cy ad aw σ J)[2]? = some (ad 2, .inl (cy 0, 200, .inl (fun i => nI (s_tx σ i)))) := rfl
theorem cw_c3 (cy : Nat → ClassId) (ad aw : Nat → Nat) (σ : Sg) (J : Js) : (cw cy ad aw σ J)[3]? = some (ad 3, .inr (3, cf3 ad σ J)) := rfl
theorem cw_c4 (cy : Nat → ClassId) (ad aw : Nat → Nat) (σ : Sg) (J : Js) : (cw cy ad aw σ J)[4]? = some (ad 4, .inl (cy 5, 8, .inr (.inr (.inr (.inr (fun i => some (ad (21 + i)))))))) := rfl
theorem cw_c5 (cy : Nat → ClassId) (ad aw : Nat → Nat) (σ : Sg) (J : Js) : (cw cy ad aw σ J)[5]? = some (ad 5, .inl (cy 2, 3, .inr (.inr (.inr (.inr (fun i => some (ad (29 + i)))))))) := rfl
theorem cw_c6 (cy : Nat → ClassId) (ad aw : Nat → Nat) (σ : Sg) (J : Js) : (cw cy ad aw σ J)[6]? = some (ad 6, .inr (5, cf6 ad σ J)) := rfl
theorem cw_c7 (cy : Nat → ClassId) (ad aw : Nat → Nat) (σ : Sg) (J : Js) : (cw cy ad aw σ J)[7]? = some (ad 7, .inl (cy 0, 256, .inl (j_pb J))) := rfl
theorem cw_c8 (cy : Nat → ClassId) (ad aw : Nat → Nat) (σ : Sg) (J : Js) : (cw cy ad aw σ J)[8]? = some (ad 8, .inr (2, cf8 ad σ J)) := rfl
theorem cw_c9 (cy : Nat → ClassId) (ad aw : Nat → Nat) (σ : Sg) (J : Js) : (cw cy ad aw σ J)[9]? = some (ad 9, .inl (cy 3, 12, .inr (.inr (.inr (.inr (fun i => some (ad (34 + i)))))))) := rfl
theorem cw_c10 (cy : Nat → ClassId) (ad aw : Nat → Nat) (σ : Sg) (J : Js) : (cw cy ad aw σ J)[10]? = some (ad 10, .inr (6, cf10 ad σ J)) := rfl
theorem cw_c11 (cy : Nat → ClassId) (ad aw : Nat → Nat) (σ : Sg) (J : Js) : (cw cy ad aw σ J)[11]? = some (ad 11, .inr (4, cf11 ad σ J)) := rfl
theorem cw_c12 (cy : Nat → ClassId) (ad aw : Nat → Nat) (σ : Sg) (J : Js) : (cw cy ad aw σ J)[12]? = some (ad 12, .inl (cy 0, 768, .inl (j_fi J))) := rfl
theorem cw_c13 (cy : Nat → ClassId) (ad aw : Nat → Nat) (σ : Sg) (J : Js) : (cw cy ad aw σ J)[13]? = some (ad 13, .inl (cy 0, 3, .inl (j_fc J))) := rfl
theorem cw_c14 (cy : Nat → ClassId) (ad aw : Nat → Nat) (σ : Sg) (J : Js) : (cw cy ad aw σ J)[14]? = some (ad 14, .inl (cy 0, 2048, .inl (j_co J))) := rfl
theorem cw_c15 (cy : Nat → ClassId) (ad aw : Nat → Nat) (σ : Sg) (J : Js) : (cw cy ad aw σ J)[15]? = some (ad 15, .inl (cy 0, 2048, .inl (j_cb J))) := rfl
theorem cw_c16 (cy : Nat → ClassId) (ad aw : Nat → Nat) (σ : Sg) (J : Js) : (cw cy ad aw σ J)[16]? = some (ad 16, .inl (cy 0, 6144, .inl (j_wa J))) := rfl
theorem cw_c17 (cy : Nat → ClassId) (ad aw : Nat → Nat) (σ : Sg) (J : Js) : (cw cy ad aw σ J)[17]? = some (ad 17, .inl (cy 0, 3, .inl (j_hd J))) := rfl
theorem cw_c18 (cy : Nat → ClassId) (ad aw : Nat → Nat) (σ : Sg) (J : Js) : (cw cy ad aw σ J)[18]? = some (ad 18, .inl (cy 0, 3, .inl (j_tl J))) := rfl
theorem cw_c19 (cy : Nat → ClassId) (ad aw : Nat → Nat) (σ : Sg) (J : Js) : (cw cy ad aw σ J)[19]? = some (ad 19, .inl (cy 4, 2, .inr (.inr (.inr (.inr (fun i => some (ad (32 + i)))))))) := rfl
theorem cw_c20 (cy : Nat → ClassId) (ad aw : Nat → Nat) (σ : Sg) (J : Js) : (cw cy ad aw σ J)[20]? = some (ad 20, .inl (cy 0, 12, .inl (fun i => nI (256 * s_ro σ (2 * i) + s_ro σ (2 * i + 1))))) := rfl
theorem cw_thing (cy : Nat → ClassId) (ad aw : Nat → Nat) (σ : Sg) (J : Js) : ∀ {t : Nat}, t < 8 → (cw cy ad aw σ J)[21 + t]? = some (ad (21 + t), .inr (8, cf_thing ad aw σ J t))
  | 0, _ => rfl
  | 1, _ => rfl
  | 2, _ => rfl
  | 3, _ => rfl
  | 4, _ => rfl
  | 5, _ => rfl
  | 6, _ => rfl
  | 7, _ => rfl
  | _ + 8, h => absurd h (by omega)
theorem cw_ferry (cy : Nat → ClassId) (ad aw : Nat → Nat) (σ : Sg) (J : Js) : ∀ {t : Nat}, t < 3 → (cw cy ad aw σ J)[29 + t]? = some (ad (29 + t), .inr (0, cf_ferry ad aw σ J t))
  | 0, _ => rfl
  | 1, _ => rfl
  | 2, _ => rfl
  | _ + 3, h => absurd h (by omega)
theorem cw_kept (cy : Nat → ClassId) (ad aw : Nat → Nat) (σ : Sg) (J : Js) : ∀ {t : Nat}, t < 2 → (cw cy ad aw σ J)[32 + t]? = some (ad (32 + t), .inr (5, cf_kept ad aw σ J t))
  | 0, _ => rfl
  | 1, _ => rfl
  | _ + 2, h => absurd h (by omega)
theorem cw_line (cy : Nat → ClassId) (ad aw : Nat → Nat) (σ : Sg) (J : Js) : ∀ {t : Nat}, t < 12 → (cw cy ad aw σ J)[34 + t]? = some (ad (34 + t), .inr (1, cf_line ad aw σ J t))
  | 0, _ => rfl
  | 1, _ => rfl
  | 2, _ => rfl
  | 3, _ => rfl
  | 4, _ => rfl
  | 5, _ => rfl
  | 6, _ => rfl
  | 7, _ => rfl
  | 8, _ => rfl
  | 9, _ => rfl
  | 10, _ => rfl
  | 11, _ => rfl
  | _ + 12, h => absurd h (by omega)
theorem cw_nums (cy : Nat → ClassId) (ad aw : Nat → Nat) (σ : Sg) (J : Js) : ∀ {t : Nat}, t < 12 → (cw cy ad aw σ J)[46 + t]? = some (ad (46 + t), .inl (cy 0, 4, .inl (j_nb J t)))
  | 0, _ => rfl
  | 1, _ => rfl
  | 2, _ => rfl
  | 3, _ => rfl
  | 4, _ => rfl
  | 5, _ => rfl
  | 6, _ => rfl
  | 7, _ => rfl
  | 8, _ => rfl
  | 9, _ => rfl
  | 10, _ => rfl
  | 11, _ => rfl
  | _ + 12, h => absurd h (by omega)
theorem cp_0_7 (cy : Nat → ClassId) (ad aw : Nat → Nat) (σ : Sg) (J : Js) (v : Nat) : (cw cy ad aw σ J).set 0 (ad 0, .inr (9, (cf0 ad σ J).set 7 (.int (nI v)))) = cw cy ad aw (su_rn σ v) J := rfl
theorem cp_1_1 (cy : Nat → ClassId) (ad aw : Nat → Nat) (σ : Sg) (J : Js) (v : Nat) : (cw cy ad aw σ J).set 1 (ad 1, .inr (7, (cf1 ad σ J).set 1 (.int (nI v)))) = cw cy ad aw (su_ln σ v) J := rfl
theorem cp_2 (cy : Nat → ClassId) (ad aw : Nat → Nat) (σ : Sg) (J : Js) (i v : Nat) : (cw cy ad aw σ J).set 2 (ad 2, .inl (cy 0, 200, .inl (upd (fun i => nI (s_tx σ i)) i (nI v)))) = cw cy ad aw (su_tx σ (updN (s_tx σ) i v)) J := by rw [upd_nI]; rfl
theorem cp_3_3 (cy : Nat → ClassId) (ad aw : Nat → Nat) (σ : Sg) (J : Js) (v : Nat) : (cw cy ad aw σ J).set 3 (ad 3, .inr (3, (cf3 ad σ J).set 3 (.int (nI v)))) = cw cy ad aw (su_n σ v) J := rfl
theorem cp_3_4 (cy : Nat → ClassId) (ad aw : Nat → Nat) (σ : Sg) (J : Js) (v : Nat) : (cw cy ad aw σ J).set 3 (ad 3, .inr (3, (cf3 ad σ J).set 4 (.int (nI v)))) = cw cy ad aw (su_m σ v) J := rfl
theorem cp_3_5 (cy : Nat → ClassId) (ad aw : Nat → Nat) (σ : Sg) (J : Js) (v : Nat) : (cw cy ad aw σ J).set 3 (ad 3, .inr (3, (cf3 ad σ J).set 5 (.int (nI v)))) = cw cy ad aw σ (ju_pe J v) := rfl
theorem cp_3_6 (cy : Nat → ClassId) (ad aw : Nat → Nat) (σ : Sg) (J : Js) (v : Nat) : (cw cy ad aw σ J).set 3 (ad 3, .inr (3, (cf3 ad σ J).set 6 (.int (nI v)))) = cw cy ad aw σ (ju_wh J v) := rfl
theorem cp_3_7 (cy : Nat → ClassId) (ad aw : Nat → Nat) (σ : Sg) (J : Js) (v : Nat) : (cw cy ad aw σ J).set 3 (ad 3, .inr (3, (cf3 ad σ J).set 7 (.int (nI v)))) = cw cy ad aw σ (ju_us J v) := rfl
theorem cp_6_2 (cy : Nat → ClassId) (ad aw : Nat → Nat) (σ : Sg) (J : Js) (v : Nat) : (cw cy ad aw σ J).set 6 (ad 6, .inr (5, (cf6 ad σ J).set 2 (.int (nI v)))) = cw cy ad aw (su_of σ v) J := rfl
theorem cp_6_3 (cy : Nat → ClassId) (ad aw : Nat → Nat) (σ : Sg) (J : Js) (v : Bool) : (cw cy ad aw σ J).set 6 (ad 6, .inr (5, (cf6 ad σ J).set 3 (.int (bI v)))) = cw cy ad aw (su_la σ v) J := rfl
theorem cp_6_4 (cy : Nat → ClassId) (ad aw : Nat → Nat) (σ : Sg) (J : Js) (v : Nat) : (cw cy ad aw σ J).set 6 (ad 6, .inr (5, (cf6 ad σ J).set 4 (.int (nI v)))) = cw cy ad aw (su_cr σ v) J := rfl
theorem cp_7 (cy : Nat → ClassId) (ad aw : Nat → Nat) (σ : Sg) (J : Js) (i : Nat) (v : Int32) : (cw cy ad aw σ J).set 7 (ad 7, .inl (cy 0, 256, .inl (upd (j_pb J) i v))) = cw cy ad aw σ (ju_pb J (upd (j_pb J) i v)) := rfl
theorem cp_8_1 (cy : Nat → ClassId) (ad aw : Nat → Nat) (σ : Sg) (J : Js) (v : Int32) : (cw cy ad aw σ J).set 8 (ad 8, .inr (2, (cf8 ad σ J).set 1 (.int v))) = cw cy ad aw σ (ju_lc J v) := rfl
theorem cp_8_2 (cy : Nat → ClassId) (ad aw : Nat → Nat) (σ : Sg) (J : Js) (v : Int32) : (cw cy ad aw σ J).set 8 (ad 8, .inr (2, (cf8 ad σ J).set 2 (.int v))) = cw cy ad aw σ (ju_fa J v) := rfl
theorem cp_8_5 (cy : Nat → ClassId) (ad aw : Nat → Nat) (σ : Sg) (J : Js) (v : Int32) : (cw cy ad aw σ J).set 8 (ad 8, .inr (2, (cf8 ad σ J).set 5 (.int v))) = cw cy ad aw σ (ju_be J v) := rfl
theorem cp_8_6 (cy : Nat → ClassId) (ad aw : Nat → Nat) (σ : Sg) (J : Js) (v : Int32) : (cw cy ad aw σ J).set 8 (ad 8, .inr (2, (cf8 ad σ J).set 6 (.int v))) = cw cy ad aw σ (ju_en J v) := rfl
theorem cp_8_7 (cy : Nat → ClassId) (ad aw : Nat → Nat) (σ : Sg) (J : Js) (v : Int32) : (cw cy ad aw σ J).set 8 (ad 8, .inr (2, (cf8 ad σ J).set 7 (.int v))) = cw cy ad aw σ (ju_so J v) := rfl
theorem cp_8_8 (cy : Nat → ClassId) (ad aw : Nat → Nat) (σ : Sg) (J : Js) (v : Int32) : (cw cy ad aw σ J).set 8 (ad 8, .inr (2, (cf8 ad σ J).set 8 (.int v))) = cw cy ad aw σ (ju_rt J v) := rfl
theorem cp_8_9 (cy : Nat → ClassId) (ad aw : Nat → Nat) (σ : Sg) (J : Js) (v : Int32) : (cw cy ad aw σ J).set 8 (ad 8, .inr (2, (cf8 ad σ J).set 9 (.int v))) = cw cy ad aw σ (ju_rh J v) := rfl
theorem cp_8_10 (cy : Nat → ClassId) (ad aw : Nat → Nat) (σ : Sg) (J : Js) (v : Int32) : (cw cy ad aw σ J).set 8 (ad 8, .inr (2, (cf8 ad σ J).set 10 (.int v))) = cw cy ad aw σ (ju_rf J v) := rfl
theorem cp_10_1 (cy : Nat → ClassId) (ad aw : Nat → Nat) (σ : Sg) (J : Js) (v : Int32) : (cw cy ad aw σ J).set 10 (ad 10, .inr (6, (cf10 ad σ J).set 1 (.int v))) = cw cy ad aw σ (ju_hm J v) := rfl
theorem cp_10_2 (cy : Nat → ClassId) (ad aw : Nat → Nat) (σ : Sg) (J : Js) (v : Int32) : (cw cy ad aw σ J).set 10 (ad 10, .inr (6, (cf10 ad σ J).set 2 (.int v))) = cw cy ad aw σ (ju_hs J v) := rfl
theorem cp_10_3 (cy : Nat → ClassId) (ad aw : Nat → Nat) (σ : Sg) (J : Js) (v : Int32) : (cw cy ad aw σ J).set 10 (ad 10, .inr (6, (cf10 ad σ J).set 3 (.int v))) = cw cy ad aw σ (ju_le J v) := rfl
theorem cp_10_4 (cy : Nat → ClassId) (ad aw : Nat → Nat) (σ : Sg) (J : Js) (v : Int32) : (cw cy ad aw σ J).set 10 (ad 10, .inr (6, (cf10 ad σ J).set 4 (.int v))) = cw cy ad aw σ (ju_mw J v) := rfl
theorem cp_10_5 (cy : Nat → ClassId) (ad aw : Nat → Nat) (σ : Sg) (J : Js) (v : Int32) : (cw cy ad aw σ J).set 10 (ad 10, .inr (6, (cf10 ad σ J).set 5 (.int v))) = cw cy ad aw σ (ju_ms J v) := rfl
theorem cp_10_6 (cy : Nat → ClassId) (ad aw : Nat → Nat) (σ : Sg) (J : Js) (v : Int32) : (cw cy ad aw σ J).set 10 (ad 10, .inr (6, (cf10 ad σ J).set 6 (.int v))) = cw cy ad aw σ (ju_ia J v) := rfl
theorem cp_10_7 (cy : Nat → ClassId) (ad aw : Nat → Nat) (σ : Sg) (J : Js) (v : Int32) : (cw cy ad aw σ J).set 10 (ad 10, .inr (6, (cf10 ad σ J).set 7 (.int v))) = cw cy ad aw σ (ju_il J v) := rfl
theorem cp_12 (cy : Nat → ClassId) (ad aw : Nat → Nat) (σ : Sg) (J : Js) (i : Nat) (v : Int32) : (cw cy ad aw σ J).set 12 (ad 12, .inl (cy 0, 768, .inl (upd (j_fi J) i v))) = cw cy ad aw σ (ju_fi J (upd (j_fi J) i v)) := rfl
theorem cp_13 (cy : Nat → ClassId) (ad aw : Nat → Nat) (σ : Sg) (J : Js) (i : Nat) (v : Int32) : (cw cy ad aw σ J).set 13 (ad 13, .inl (cy 0, 3, .inl (upd (j_fc J) i v))) = cw cy ad aw σ (ju_fc J (upd (j_fc J) i v)) := rfl
theorem cp_14 (cy : Nat → ClassId) (ad aw : Nat → Nat) (σ : Sg) (J : Js) (i : Nat) (v : Int32) : (cw cy ad aw σ J).set 14 (ad 14, .inl (cy 0, 2048, .inl (upd (j_co J) i v))) = cw cy ad aw σ (ju_co J (upd (j_co J) i v)) := rfl
theorem cp_15 (cy : Nat → ClassId) (ad aw : Nat → Nat) (σ : Sg) (J : Js) (i : Nat) (v : Int32) : (cw cy ad aw σ J).set 15 (ad 15, .inl (cy 0, 2048, .inl (upd (j_cb J) i v))) = cw cy ad aw σ (ju_cb J (upd (j_cb J) i v)) := rfl
theorem cp_16 (cy : Nat → ClassId) (ad aw : Nat → Nat) (σ : Sg) (J : Js) (i : Nat) (v : Int32) : (cw cy ad aw σ J).set 16 (ad 16, .inl (cy 0, 6144, .inl (upd (j_wa J) i v))) = cw cy ad aw σ (ju_wa J (upd (j_wa J) i v)) := rfl
theorem cp_17 (cy : Nat → ClassId) (ad aw : Nat → Nat) (σ : Sg) (J : Js) (i : Nat) (v : Int32) : (cw cy ad aw σ J).set 17 (ad 17, .inl (cy 0, 3, .inl (upd (j_hd J) i v))) = cw cy ad aw σ (ju_hd J (upd (j_hd J) i v)) := rfl
theorem cp_18 (cy : Nat → ClassId) (ad aw : Nat → Nat) (σ : Sg) (J : Js) (i : Nat) (v : Int32) : (cw cy ad aw σ J).set 18 (ad 18, .inl (cy 0, 3, .inl (upd (j_tl J) i v))) = cw cy ad aw σ (ju_tl J (upd (j_tl J) i v)) := rfl
theorem cp_thing_0 (cy : Nat → ClassId) (ad aw : Nat → Nat) (σ : Sg) (J : Js) (v : Nat) : ∀ {t : Nat}, t < 8 → (cw cy ad aw σ J).set (21 + t) (ad (21 + t), .inr (8, (cf_thing ad aw σ J t).set 0 (.int (nI v)))) = cw cy ad aw (su_th σ (updN (s_th σ) (6 * t) v)) J
  | 0, _ => rfl
  | 1, _ => rfl
  | 2, _ => rfl
  | 3, _ => rfl
  | 4, _ => rfl
  | 5, _ => rfl
  | 6, _ => rfl
  | 7, _ => rfl
  | _ + 8, h => absurd h (by omega)
theorem cp_thing_1 (cy : Nat → ClassId) (ad aw : Nat → Nat) (σ : Sg) (J : Js) (v : Nat) : ∀ {t : Nat}, t < 8 → (cw cy ad aw σ J).set (21 + t) (ad (21 + t), .inr (8, (cf_thing ad aw σ J t).set 1 (.int (nI v)))) = cw cy ad aw (su_th σ (updN (s_th σ) (6 * t + 1) v)) J
  | 0, _ => rfl
  | 1, _ => rfl
  | 2, _ => rfl
  | 3, _ => rfl
  | 4, _ => rfl
  | 5, _ => rfl
  | 6, _ => rfl
  | 7, _ => rfl
  | _ + 8, h => absurd h (by omega)
theorem cp_thing_2 (cy : Nat → ClassId) (ad aw : Nat → Nat) (σ : Sg) (J : Js) (v : Nat) : ∀ {t : Nat}, t < 8 → (cw cy ad aw σ J).set (21 + t) (ad (21 + t), .inr (8, (cf_thing ad aw σ J t).set 2 (.int (nI v)))) = cw cy ad aw (su_th σ (updN (s_th σ) (6 * t + 2) v)) J
  | 0, _ => rfl
  | 1, _ => rfl
  | 2, _ => rfl
  | 3, _ => rfl
  | 4, _ => rfl
  | 5, _ => rfl
  | 6, _ => rfl
  | 7, _ => rfl
  | _ + 8, h => absurd h (by omega)
theorem cp_thing_3 (cy : Nat → ClassId) (ad aw : Nat → Nat) (σ : Sg) (J : Js) (v : Nat) : ∀ {t : Nat}, t < 8 → (cw cy ad aw σ J).set (21 + t) (ad (21 + t), .inr (8, (cf_thing ad aw σ J t).set 3 (.int (nI v)))) = cw cy ad aw (su_th σ (updN (s_th σ) (6 * t + 3) v)) J
  | 0, _ => rfl
  | 1, _ => rfl
  | 2, _ => rfl
  | 3, _ => rfl
  | 4, _ => rfl
  | 5, _ => rfl
  | 6, _ => rfl
  | 7, _ => rfl
  | _ + 8, h => absurd h (by omega)
theorem cp_thing_4 (cy : Nat → ClassId) (ad aw : Nat → Nat) (σ : Sg) (J : Js) (v : Nat) : ∀ {t : Nat}, t < 8 → (cw cy ad aw σ J).set (21 + t) (ad (21 + t), .inr (8, (cf_thing ad aw σ J t).set 4 (.int (nI v)))) = cw cy ad aw (su_th σ (updN (s_th σ) (6 * t + 4) v)) J
  | 0, _ => rfl
  | 1, _ => rfl
  | 2, _ => rfl
  | 3, _ => rfl
  | 4, _ => rfl
  | 5, _ => rfl
  | 6, _ => rfl
  | 7, _ => rfl
  | _ + 8, h => absurd h (by omega)
theorem cp_thing_5 (cy : Nat → ClassId) (ad aw : Nat → Nat) (σ : Sg) (J : Js) (v : Nat) : ∀ {t : Nat}, t < 8 → (cw cy ad aw σ J).set (21 + t) (ad (21 + t), .inr (8, (cf_thing ad aw σ J t).set 5 (.int (nI v)))) = cw cy ad aw (su_th σ (updN (s_th σ) (6 * t + 5) v)) J
  | 0, _ => rfl
  | 1, _ => rfl
  | 2, _ => rfl
  | 3, _ => rfl
  | 4, _ => rfl
  | 5, _ => rfl
  | 6, _ => rfl
  | 7, _ => rfl
  | _ + 8, h => absurd h (by omega)
theorem cp_ferry_0 (cy : Nat → ClassId) (ad aw : Nat → Nat) (σ : Sg) (J : Js) (v : Nat) : ∀ {t : Nat}, t < 3 → (cw cy ad aw σ J).set (29 + t) (ad (29 + t), .inr (0, (cf_ferry ad aw σ J t).set 0 (.int (nI v)))) = cw cy ad aw (su_fe σ (updN (s_fe σ) (5 * t) v)) J
  | 0, _ => rfl
  | 1, _ => rfl
  | 2, _ => rfl
  | _ + 3, h => absurd h (by omega)
theorem cp_ferry_1 (cy : Nat → ClassId) (ad aw : Nat → Nat) (σ : Sg) (J : Js) (v : Nat) : ∀ {t : Nat}, t < 3 → (cw cy ad aw σ J).set (29 + t) (ad (29 + t), .inr (0, (cf_ferry ad aw σ J t).set 1 (.int (nI v)))) = cw cy ad aw (su_fe σ (updN (s_fe σ) (5 * t + 1) v)) J
  | 0, _ => rfl
  | 1, _ => rfl
  | 2, _ => rfl
  | _ + 3, h => absurd h (by omega)
theorem cp_ferry_2 (cy : Nat → ClassId) (ad aw : Nat → Nat) (σ : Sg) (J : Js) (v : Nat) : ∀ {t : Nat}, t < 3 → (cw cy ad aw σ J).set (29 + t) (ad (29 + t), .inr (0, (cf_ferry ad aw σ J t).set 2 (.int (nI v)))) = cw cy ad aw (su_fe σ (updN (s_fe σ) (5 * t + 2) v)) J
  | 0, _ => rfl
  | 1, _ => rfl
  | 2, _ => rfl
  | _ + 3, h => absurd h (by omega)
theorem cp_ferry_3 (cy : Nat → ClassId) (ad aw : Nat → Nat) (σ : Sg) (J : Js) (v : Nat) : ∀ {t : Nat}, t < 3 → (cw cy ad aw σ J).set (29 + t) (ad (29 + t), .inr (0, (cf_ferry ad aw σ J t).set 3 (.int (nI v)))) = cw cy ad aw (su_fe σ (updN (s_fe σ) (5 * t + 3) v)) J
  | 0, _ => rfl
  | 1, _ => rfl
  | 2, _ => rfl
  | _ + 3, h => absurd h (by omega)
theorem cp_ferry_4 (cy : Nat → ClassId) (ad aw : Nat → Nat) (σ : Sg) (J : Js) (v : Nat) : ∀ {t : Nat}, t < 3 → (cw cy ad aw σ J).set (29 + t) (ad (29 + t), .inr (0, (cf_ferry ad aw σ J t).set 4 (.int (nI v)))) = cw cy ad aw (su_fe σ (updN (s_fe σ) (5 * t + 4) v)) J
  | 0, _ => rfl
  | 1, _ => rfl
  | 2, _ => rfl
  | _ + 3, h => absurd h (by omega)
theorem cp_line_0 (cy : Nat → ClassId) (ad aw : Nat → Nat) (σ : Sg) (J : Js) (v : Option Nat) : ∀ {t : Nat}, t < 12 → (cw cy ad aw σ J).set (34 + t) (ad (34 + t), .inr (1, (cf_line ad aw σ J t).set 0 (va_re aw v))) = cw cy ad aw σ (ju_lw J (updO (j_lw J) t v))
  | 0, _ => rfl
  | 1, _ => rfl
  | 2, _ => rfl
  | 3, _ => rfl
  | 4, _ => rfl
  | 5, _ => rfl
  | 6, _ => rfl
  | 7, _ => rfl
  | 8, _ => rfl
  | 9, _ => rfl
  | 10, _ => rfl
  | 11, _ => rfl
  | _ + 12, h => absurd h (by omega)
theorem cp_nums (cy : Nat → ClassId) (ad aw : Nat → Nat) (σ : Sg) (J : Js) (i : Nat) (v : Int32) : ∀ {t : Nat}, t < 12 → (cw cy ad aw σ J).set (46 + t) (ad (46 + t), .inl (cy 0, 4, .inl (upd (j_nb J t) i v))) = cw cy ad aw σ (ju_nb J (updA (j_nb J) t (upd (j_nb J t) i v)))
  | 0, _ => rfl
  | 1, _ => rfl
  | 2, _ => rfl
  | 3, _ => rfl
  | 4, _ => rfl
  | 5, _ => rfl
  | 6, _ => rfl
  | 7, _ => rfl
  | 8, _ => rfl
  | 9, _ => rfl
  | 10, _ => rfl
  | 11, _ => rfl
  | _ + 12, h => absurd h (by omega)
theorem cw_ad (cy : Nat → ClassId) (ad aw : Nat → Nat) (σ : Sg) (J : Js) : (cw cy ad aw σ J).map (·.1) = (List.range 58).map ad := rfl
