theorem jr_lw_lw (x : Js) (v : Nat → Option Nat) : j_lw (ju_lw x v) = v := rfl
theorem jr_lw_nb (x : Js) (v : Nat → Nat → Int32) : j_lw (ju_nb x v) = j_lw x := rfl
theorem jr_lw_lc (x : Js) (v : Int32) : j_lw (ju_lc x v) = j_lw x := rfl
theorem jr_lw_fa (x : Js) (v : Int32) : j_lw (ju_fa x v) = j_lw x := rfl
theorem jr_lw_be (x : Js) (v : Int32) : j_lw (ju_be x v) = j_lw x := rfl
theorem jr_lw_en (x : Js) (v : Int32) : j_lw (ju_en x v) = j_lw x := rfl
theorem jr_lw_so (x : Js) (v : Int32) : j_lw (ju_so x v) = j_lw x := rfl
theorem jr_lw_rt (x : Js) (v : Int32) : j_lw (ju_rt x v) = j_lw x := rfl
theorem jr_lw_rh (x : Js) (v : Int32) : j_lw (ju_rh x v) = j_lw x := rfl
theorem jr_lw_rf (x : Js) (v : Int32) : j_lw (ju_rf x v) = j_lw x := rfl
theorem jr_lw_pe (x : Js) (v : Nat) : j_lw (ju_pe x v) = j_lw x := rfl
theorem jr_lw_wh (x : Js) (v : Nat) : j_lw (ju_wh x v) = j_lw x := rfl
theorem jr_lw_us (x : Js) (v : Nat) : j_lw (ju_us x v) = j_lw x := rfl
theorem jr_lw_pb (x : Js) (v : Nat → Int32) : j_lw (ju_pb x v) = j_lw x := rfl
theorem jr_nb_lw (x : Js) (v : Nat → Option Nat) : j_nb (ju_lw x v) = j_nb x := rfl
theorem jr_nb_nb (x : Js) (v : Nat → Nat → Int32) : j_nb (ju_nb x v) = v := rfl
theorem jr_nb_lc (x : Js) (v : Int32) : j_nb (ju_lc x v) = j_nb x := rfl
theorem jr_nb_fa (x : Js) (v : Int32) : j_nb (ju_fa x v) = j_nb x := rfl
theorem jr_nb_be (x : Js) (v : Int32) : j_nb (ju_be x v) = j_nb x := rfl
theorem jr_nb_en (x : Js) (v : Int32) : j_nb (ju_en x v) = j_nb x := rfl
theorem jr_nb_so (x : Js) (v : Int32) : j_nb (ju_so x v) = j_nb x := rfl
theorem jr_nb_rt (x : Js) (v : Int32) : j_nb (ju_rt x v) = j_nb x := rfl
theorem jr_nb_rh (x : Js) (v : Int32) : j_nb (ju_rh x v) = j_nb x := rfl
theorem jr_nb_rf (x : Js) (v : Int32) : j_nb (ju_rf x v) = j_nb x := rfl
theorem jr_nb_pe (x : Js) (v : Nat) : j_nb (ju_pe x v) = j_nb x := rfl
theorem jr_nb_wh (x : Js) (v : Nat) : j_nb (ju_wh x v) = j_nb x := rfl
theorem jr_nb_us (x : Js) (v : Nat) : j_nb (ju_us x v) = j_nb x := rfl
theorem jr_nb_pb (x : Js) (v : Nat → Int32) : j_nb (ju_pb x v) = j_nb x := rfl
theorem jr_lc_lw (x : Js) (v : Nat → Option Nat) : j_lc (ju_lw x v) = j_lc x := rfl
theorem jr_lc_nb (x : Js) (v : Nat → Nat → Int32) : j_lc (ju_nb x v) = j_lc x := rfl
theorem jr_lc_lc (x : Js) (v : Int32) : j_lc (ju_lc x v) = v := rfl
theorem jr_lc_fa (x : Js) (v : Int32) : j_lc (ju_fa x v) = j_lc x := rfl
theorem jr_lc_be (x : Js) (v : Int32) : j_lc (ju_be x v) = j_lc x := rfl
theorem jr_lc_en (x : Js) (v : Int32) : j_lc (ju_en x v) = j_lc x := rfl
theorem jr_lc_so (x : Js) (v : Int32) : j_lc (ju_so x v) = j_lc x := rfl
theorem jr_lc_rt (x : Js) (v : Int32) : j_lc (ju_rt x v) = j_lc x := rfl
theorem jr_lc_rh (x : Js) (v : Int32) : j_lc (ju_rh x v) = j_lc x := rfl
theorem jr_lc_rf (x : Js) (v : Int32) : j_lc (ju_rf x v) = j_lc x := rfl
theorem jr_lc_pe (x : Js) (v : Nat) : j_lc (ju_pe x v) = j_lc x := rfl
theorem jr_lc_wh (x : Js) (v : Nat) : j_lc (ju_wh x v) = j_lc x := rfl
theorem jr_lc_us (x : Js) (v : Nat) : j_lc (ju_us x v) = j_lc x := rfl
theorem jr_lc_pb (x : Js) (v : Nat → Int32) : j_lc (ju_pb x v) = j_lc x := rfl
theorem jr_fa_lw (x : Js) (v : Nat → Option Nat) : j_fa (ju_lw x v) = j_fa x := rfl
theorem jr_fa_nb (x : Js) (v : Nat → Nat → Int32) : j_fa (ju_nb x v) = j_fa x := rfl
theorem jr_fa_lc (x : Js) (v : Int32) : j_fa (ju_lc x v) = j_fa x := rfl
theorem jr_fa_fa (x : Js) (v : Int32) : j_fa (ju_fa x v) = v := rfl
theorem jr_fa_be (x : Js) (v : Int32) : j_fa (ju_be x v) = j_fa x := rfl
theorem jr_fa_en (x : Js) (v : Int32) : j_fa (ju_en x v) = j_fa x := rfl
theorem jr_fa_so (x : Js) (v : Int32) : j_fa (ju_so x v) = j_fa x := rfl
theorem jr_fa_rt (x : Js) (v : Int32) : j_fa (ju_rt x v) = j_fa x := rfl
theorem jr_fa_rh (x : Js) (v : Int32) : j_fa (ju_rh x v) = j_fa x := rfl
theorem jr_fa_rf (x : Js) (v : Int32) : j_fa (ju_rf x v) = j_fa x := rfl
theorem jr_fa_pe (x : Js) (v : Nat) : j_fa (ju_pe x v) = j_fa x := rfl
theorem jr_fa_wh (x : Js) (v : Nat) : j_fa (ju_wh x v) = j_fa x := rfl
theorem jr_fa_us (x : Js) (v : Nat) : j_fa (ju_us x v) = j_fa x := rfl
theorem jr_fa_pb (x : Js) (v : Nat → Int32) : j_fa (ju_pb x v) = j_fa x := rfl
theorem jr_be_lw (x : Js) (v : Nat → Option Nat) : j_be (ju_lw x v) = j_be x := rfl
theorem jr_be_nb (x : Js) (v : Nat → Nat → Int32) : j_be (ju_nb x v) = j_be x := rfl
theorem jr_be_lc (x : Js) (v : Int32) : j_be (ju_lc x v) = j_be x := rfl
theorem jr_be_fa (x : Js) (v : Int32) : j_be (ju_fa x v) = j_be x := rfl
theorem jr_be_be (x : Js) (v : Int32) : j_be (ju_be x v) = v := rfl
theorem jr_be_en (x : Js) (v : Int32) : j_be (ju_en x v) = j_be x := rfl
theorem jr_be_so (x : Js) (v : Int32) : j_be (ju_so x v) = j_be x := rfl
theorem jr_be_rt (x : Js) (v : Int32) : j_be (ju_rt x v) = j_be x := rfl
theorem jr_be_rh (x : Js) (v : Int32) : j_be (ju_rh x v) = j_be x := rfl
theorem jr_be_rf (x : Js) (v : Int32) : j_be (ju_rf x v) = j_be x := rfl
theorem jr_be_pe (x : Js) (v : Nat) : j_be (ju_pe x v) = j_be x := rfl
theorem jr_be_wh (x : Js) (v : Nat) : j_be (ju_wh x v) = j_be x := rfl
theorem jr_be_us (x : Js) (v : Nat) : j_be (ju_us x v) = j_be x := rfl
theorem jr_be_pb (x : Js) (v : Nat → Int32) : j_be (ju_pb x v) = j_be x := rfl
theorem jr_en_lw (x : Js) (v : Nat → Option Nat) : j_en (ju_lw x v) = j_en x := rfl
theorem jr_en_nb (x : Js) (v : Nat → Nat → Int32) : j_en (ju_nb x v) = j_en x := rfl
theorem jr_en_lc (x : Js) (v : Int32) : j_en (ju_lc x v) = j_en x := rfl
theorem jr_en_fa (x : Js) (v : Int32) : j_en (ju_fa x v) = j_en x := rfl
theorem jr_en_be (x : Js) (v : Int32) : j_en (ju_be x v) = j_en x := rfl
theorem jr_en_en (x : Js) (v : Int32) : j_en (ju_en x v) = v := rfl
theorem jr_en_so (x : Js) (v : Int32) : j_en (ju_so x v) = j_en x := rfl
theorem jr_en_rt (x : Js) (v : Int32) : j_en (ju_rt x v) = j_en x := rfl
theorem jr_en_rh (x : Js) (v : Int32) : j_en (ju_rh x v) = j_en x := rfl
theorem jr_en_rf (x : Js) (v : Int32) : j_en (ju_rf x v) = j_en x := rfl
theorem jr_en_pe (x : Js) (v : Nat) : j_en (ju_pe x v) = j_en x := rfl
theorem jr_en_wh (x : Js) (v : Nat) : j_en (ju_wh x v) = j_en x := rfl
theorem jr_en_us (x : Js) (v : Nat) : j_en (ju_us x v) = j_en x := rfl
theorem jr_en_pb (x : Js) (v : Nat → Int32) : j_en (ju_pb x v) = j_en x := rfl
theorem jr_so_lw (x : Js) (v : Nat → Option Nat) : j_so (ju_lw x v) = j_so x := rfl
theorem jr_so_nb (x : Js) (v : Nat → Nat → Int32) : j_so (ju_nb x v) = j_so x := rfl
theorem jr_so_lc (x : Js) (v : Int32) : j_so (ju_lc x v) = j_so x := rfl
theorem jr_so_fa (x : Js) (v : Int32) : j_so (ju_fa x v) = j_so x := rfl
theorem jr_so_be (x : Js) (v : Int32) : j_so (ju_be x v) = j_so x := rfl
theorem jr_so_en (x : Js) (v : Int32) : j_so (ju_en x v) = j_so x := rfl
theorem jr_so_so (x : Js) (v : Int32) : j_so (ju_so x v) = v := rfl
theorem jr_so_rt (x : Js) (v : Int32) : j_so (ju_rt x v) = j_so x := rfl
theorem jr_so_rh (x : Js) (v : Int32) : j_so (ju_rh x v) = j_so x := rfl
theorem jr_so_rf (x : Js) (v : Int32) : j_so (ju_rf x v) = j_so x := rfl
theorem jr_so_pe (x : Js) (v : Nat) : j_so (ju_pe x v) = j_so x := rfl
theorem jr_so_wh (x : Js) (v : Nat) : j_so (ju_wh x v) = j_so x := rfl
theorem jr_so_us (x : Js) (v : Nat) : j_so (ju_us x v) = j_so x := rfl
theorem jr_so_pb (x : Js) (v : Nat → Int32) : j_so (ju_pb x v) = j_so x := rfl
theorem jr_rt_lw (x : Js) (v : Nat → Option Nat) : j_rt (ju_lw x v) = j_rt x := rfl
theorem jr_rt_nb (x : Js) (v : Nat → Nat → Int32) : j_rt (ju_nb x v) = j_rt x := rfl
theorem jr_rt_lc (x : Js) (v : Int32) : j_rt (ju_lc x v) = j_rt x := rfl
theorem jr_rt_fa (x : Js) (v : Int32) : j_rt (ju_fa x v) = j_rt x := rfl
theorem jr_rt_be (x : Js) (v : Int32) : j_rt (ju_be x v) = j_rt x := rfl
theorem jr_rt_en (x : Js) (v : Int32) : j_rt (ju_en x v) = j_rt x := rfl
theorem jr_rt_so (x : Js) (v : Int32) : j_rt (ju_so x v) = j_rt x := rfl
theorem jr_rt_rt (x : Js) (v : Int32) : j_rt (ju_rt x v) = v := rfl
theorem jr_rt_rh (x : Js) (v : Int32) : j_rt (ju_rh x v) = j_rt x := rfl
theorem jr_rt_rf (x : Js) (v : Int32) : j_rt (ju_rf x v) = j_rt x := rfl
theorem jr_rt_pe (x : Js) (v : Nat) : j_rt (ju_pe x v) = j_rt x := rfl
theorem jr_rt_wh (x : Js) (v : Nat) : j_rt (ju_wh x v) = j_rt x := rfl
theorem jr_rt_us (x : Js) (v : Nat) : j_rt (ju_us x v) = j_rt x := rfl
theorem jr_rt_pb (x : Js) (v : Nat → Int32) : j_rt (ju_pb x v) = j_rt x := rfl
theorem jr_rh_lw (x : Js) (v : Nat → Option Nat) : j_rh (ju_lw x v) = j_rh x := rfl
theorem jr_rh_nb (x : Js) (v : Nat → Nat → Int32) : j_rh (ju_nb x v) = j_rh x := rfl
theorem jr_rh_lc (x : Js) (v : Int32) : j_rh (ju_lc x v) = j_rh x := rfl
theorem jr_rh_fa (x : Js) (v : Int32) : j_rh (ju_fa x v) = j_rh x := rfl
theorem jr_rh_be (x : Js) (v : Int32) : j_rh (ju_be x v) = j_rh x := rfl
theorem jr_rh_en (x : Js) (v : Int32) : j_rh (ju_en x v) = j_rh x := rfl
theorem jr_rh_so (x : Js) (v : Int32) : j_rh (ju_so x v) = j_rh x := rfl
theorem jr_rh_rt (x : Js) (v : Int32) : j_rh (ju_rt x v) = j_rh x := rfl
theorem jr_rh_rh (x : Js) (v : Int32) : j_rh (ju_rh x v) = v := rfl
theorem jr_rh_rf (x : Js) (v : Int32) : j_rh (ju_rf x v) = j_rh x := rfl
theorem jr_rh_pe (x : Js) (v : Nat) : j_rh (ju_pe x v) = j_rh x := rfl
theorem jr_rh_wh (x : Js) (v : Nat) : j_rh (ju_wh x v) = j_rh x := rfl
theorem jr_rh_us (x : Js) (v : Nat) : j_rh (ju_us x v) = j_rh x := rfl
theorem jr_rh_pb (x : Js) (v : Nat → Int32) : j_rh (ju_pb x v) = j_rh x := rfl
theorem jr_rf_lw (x : Js) (v : Nat → Option Nat) : j_rf (ju_lw x v) = j_rf x := rfl
theorem jr_rf_nb (x : Js) (v : Nat → Nat → Int32) : j_rf (ju_nb x v) = j_rf x := rfl
theorem jr_rf_lc (x : Js) (v : Int32) : j_rf (ju_lc x v) = j_rf x := rfl
theorem jr_rf_fa (x : Js) (v : Int32) : j_rf (ju_fa x v) = j_rf x := rfl
theorem jr_rf_be (x : Js) (v : Int32) : j_rf (ju_be x v) = j_rf x := rfl
theorem jr_rf_en (x : Js) (v : Int32) : j_rf (ju_en x v) = j_rf x := rfl
theorem jr_rf_so (x : Js) (v : Int32) : j_rf (ju_so x v) = j_rf x := rfl
theorem jr_rf_rt (x : Js) (v : Int32) : j_rf (ju_rt x v) = j_rf x := rfl
theorem jr_rf_rh (x : Js) (v : Int32) : j_rf (ju_rh x v) = j_rf x := rfl
theorem jr_rf_rf (x : Js) (v : Int32) : j_rf (ju_rf x v) = v := rfl
theorem jr_rf_pe (x : Js) (v : Nat) : j_rf (ju_pe x v) = j_rf x := rfl
theorem jr_rf_wh (x : Js) (v : Nat) : j_rf (ju_wh x v) = j_rf x := rfl
theorem jr_rf_us (x : Js) (v : Nat) : j_rf (ju_us x v) = j_rf x := rfl
theorem jr_rf_pb (x : Js) (v : Nat → Int32) : j_rf (ju_pb x v) = j_rf x := rfl
theorem jr_pe_lw (x : Js) (v : Nat → Option Nat) : j_pe (ju_lw x v) = j_pe x := rfl
theorem jr_pe_nb (x : Js) (v : Nat → Nat → Int32) : j_pe (ju_nb x v) = j_pe x := rfl
theorem jr_pe_lc (x : Js) (v : Int32) : j_pe (ju_lc x v) = j_pe x := rfl
theorem jr_pe_fa (x : Js) (v : Int32) : j_pe (ju_fa x v) = j_pe x := rfl
theorem jr_pe_be (x : Js) (v : Int32) : j_pe (ju_be x v) = j_pe x := rfl
theorem jr_pe_en (x : Js) (v : Int32) : j_pe (ju_en x v) = j_pe x := rfl
theorem jr_pe_so (x : Js) (v : Int32) : j_pe (ju_so x v) = j_pe x := rfl
theorem jr_pe_rt (x : Js) (v : Int32) : j_pe (ju_rt x v) = j_pe x := rfl
theorem jr_pe_rh (x : Js) (v : Int32) : j_pe (ju_rh x v) = j_pe x := rfl
theorem jr_pe_rf (x : Js) (v : Int32) : j_pe (ju_rf x v) = j_pe x := rfl
theorem jr_pe_pe (x : Js) (v : Nat) : j_pe (ju_pe x v) = v := rfl
theorem jr_pe_wh (x : Js) (v : Nat) : j_pe (ju_wh x v) = j_pe x := rfl
theorem jr_pe_us (x : Js) (v : Nat) : j_pe (ju_us x v) = j_pe x := rfl
theorem jr_pe_pb (x : Js) (v : Nat → Int32) : j_pe (ju_pb x v) = j_pe x := rfl
theorem jr_wh_lw (x : Js) (v : Nat → Option Nat) : j_wh (ju_lw x v) = j_wh x := rfl
theorem jr_wh_nb (x : Js) (v : Nat → Nat → Int32) : j_wh (ju_nb x v) = j_wh x := rfl
theorem jr_wh_lc (x : Js) (v : Int32) : j_wh (ju_lc x v) = j_wh x := rfl
theorem jr_wh_fa (x : Js) (v : Int32) : j_wh (ju_fa x v) = j_wh x := rfl
theorem jr_wh_be (x : Js) (v : Int32) : j_wh (ju_be x v) = j_wh x := rfl
theorem jr_wh_en (x : Js) (v : Int32) : j_wh (ju_en x v) = j_wh x := rfl
theorem jr_wh_so (x : Js) (v : Int32) : j_wh (ju_so x v) = j_wh x := rfl
theorem jr_wh_rt (x : Js) (v : Int32) : j_wh (ju_rt x v) = j_wh x := rfl
theorem jr_wh_rh (x : Js) (v : Int32) : j_wh (ju_rh x v) = j_wh x := rfl
theorem jr_wh_rf (x : Js) (v : Int32) : j_wh (ju_rf x v) = j_wh x := rfl
theorem jr_wh_pe (x : Js) (v : Nat) : j_wh (ju_pe x v) = j_wh x := rfl
theorem jr_wh_wh (x : Js) (v : Nat) : j_wh (ju_wh x v) = v := rfl
theorem jr_wh_us (x : Js) (v : Nat) : j_wh (ju_us x v) = j_wh x := rfl
theorem jr_wh_pb (x : Js) (v : Nat → Int32) : j_wh (ju_pb x v) = j_wh x := rfl
theorem jr_us_lw (x : Js) (v : Nat → Option Nat) : j_us (ju_lw x v) = j_us x := rfl
theorem jr_us_nb (x : Js) (v : Nat → Nat → Int32) : j_us (ju_nb x v) = j_us x := rfl
theorem jr_us_lc (x : Js) (v : Int32) : j_us (ju_lc x v) = j_us x := rfl
theorem jr_us_fa (x : Js) (v : Int32) : j_us (ju_fa x v) = j_us x := rfl
theorem jr_us_be (x : Js) (v : Int32) : j_us (ju_be x v) = j_us x := rfl
theorem jr_us_en (x : Js) (v : Int32) : j_us (ju_en x v) = j_us x := rfl
theorem jr_us_so (x : Js) (v : Int32) : j_us (ju_so x v) = j_us x := rfl
theorem jr_us_rt (x : Js) (v : Int32) : j_us (ju_rt x v) = j_us x := rfl
theorem jr_us_rh (x : Js) (v : Int32) : j_us (ju_rh x v) = j_us x := rfl
theorem jr_us_rf (x : Js) (v : Int32) : j_us (ju_rf x v) = j_us x := rfl
theorem jr_us_pe (x : Js) (v : Nat) : j_us (ju_pe x v) = j_us x := rfl
theorem jr_us_wh (x : Js) (v : Nat) : j_us (ju_wh x v) = j_us x := rfl
theorem jr_us_us (x : Js) (v : Nat) : j_us (ju_us x v) = v := rfl
theorem jr_us_pb (x : Js) (v : Nat → Int32) : j_us (ju_pb x v) = j_us x := rfl
theorem jr_pb_lw (x : Js) (v : Nat → Option Nat) : j_pb (ju_lw x v) = j_pb x := rfl
theorem jr_pb_nb (x : Js) (v : Nat → Nat → Int32) : j_pb (ju_nb x v) = j_pb x := rfl
theorem jr_pb_lc (x : Js) (v : Int32) : j_pb (ju_lc x v) = j_pb x := rfl
theorem jr_pb_fa (x : Js) (v : Int32) : j_pb (ju_fa x v) = j_pb x := rfl
theorem jr_pb_be (x : Js) (v : Int32) : j_pb (ju_be x v) = j_pb x := rfl
theorem jr_pb_en (x : Js) (v : Int32) : j_pb (ju_en x v) = j_pb x := rfl
theorem jr_pb_so (x : Js) (v : Int32) : j_pb (ju_so x v) = j_pb x := rfl
theorem jr_pb_rt (x : Js) (v : Int32) : j_pb (ju_rt x v) = j_pb x := rfl
theorem jr_pb_rh (x : Js) (v : Int32) : j_pb (ju_rh x v) = j_pb x := rfl
theorem jr_pb_rf (x : Js) (v : Int32) : j_pb (ju_rf x v) = j_pb x := rfl
theorem jr_pb_pe (x : Js) (v : Nat) : j_pb (ju_pe x v) = j_pb x := rfl
theorem jr_pb_wh (x : Js) (v : Nat) : j_pb (ju_wh x v) = j_pb x := rfl
theorem jr_pb_us (x : Js) (v : Nat) : j_pb (ju_us x v) = j_pb x := rfl
theorem jr_pb_pb (x : Js) (v : Nat → Int32) : j_pb (ju_pb x v) = v := rfl
