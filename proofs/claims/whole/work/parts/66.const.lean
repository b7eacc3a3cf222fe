abbrev GN : Cond := Jvm.Cond.and given_1 narrow_1
theorem lt_at (i : Nat) {w : Cond} (h : tables_1[i]? = some w) : w ∈ lw_tbl := List.mem_append_right _ (List.mem_of_getElem? h)
def p_ex : List Nat := [186, 196, 277, 296, 312, 332, 353, 202, 212, 222, 235, 247, 264, 375, 398, 421, 446, 175]
theorem g_ex : ∀ i, i < 18 → (flatC GN)[p_ex.getD i 0]? = some (Cond.exactly (stT i) "java/lang/String") := by decide +kernel
def p_co : List Nat := [187, 197, 278, 297, 313, 333, 354, 203, 213, 223, 236, 248, 265, 376, 399, 422, 447, 176]
theorem g_co : ∀ i, i < 18 → (flatC GN)[p_co.getD i 0]? = some (Cond.eq (.field (stT i) "java/lang/String" "coder" "B") (.int 0)) := by decide +kernel
def p_ar : List Nat := [188, 198, 279, 298, 314, 334, 355, 204, 214, 224, 237, 249, 266, 377, 400, 423, 448, 177]
theorem g_ar : ∀ i, i < 18 → (flatC GN)[p_ar.getD i 0]? = some (Cond.arrayOf (.field (stT i) "java/lang/String" "value" "[B") .byte) := by decide +kernel
def p_le : List Nat := [189, 199, 280, 299, 315, 335, 356, 205, 215, 225, 238, 250, 267, 378, 401, 424, 449, 178]
theorem g_le : ∀ i, i < 18 → (flatC GN)[p_le.getD i 0]? = some (Cond.eq (.length (.field (stT i) "java/lang/String" "value" "[B")) (.int (Int32.ofNat (lenS.getD i 0)))) := by decide +kernel
def p_el : List Nat := [190, 0, 281, 300, 316, 336, 357, 206, 216, 226, 239, 251, 268, 379, 402, 425, 450, 179]
theorem g_el : ∀ i, i < 18 → ∀ j, j < 8 → j < lenS.getD i 0 → (flatC GN)[p_el.getD i 0 + j]? = some (Cond.eq (.elem (.field (stT i) "java/lang/String" "value" "[B") (.int (Int32.ofNat j))) (.int ((bytS.getD i []).getD j 0))) := by decide +kernel
def p_ne : List (List Nat) := [[0, 201, 288, 303, 322, 342, 363, 210, 219, 231, 242, 258, 270, 385, 407, 431, 458, 0], [0, 0, 289, 304, 323, 343, 364, 211, 220, 232, 243, 259, 271, 386, 408, 432, 459, 0], [0, 0, 0, 311, 330, 350, 371, 0, 0, 0, 0, 0, 0, 393, 415, 439, 466, 0], [0, 0, 0, 0, 331, 351, 372, 0, 0, 0, 0, 0, 0, 394, 416, 440, 467, 0], [0, 0, 0, 0, 0, 352, 373, 0, 0, 0, 0, 0, 0, 395, 417, 441, 468, 0], [0, 0, 0, 0, 0, 0, 374, 0, 0, 0, 0, 0, 0, 396, 418, 442, 469, 0], [0, 0, 0, 0, 0, 0, 0, 0, 0, 0, 0, 0, 0, 397, 419, 443, 470, 0], [0, 0, 290, 305, 324, 344, 365, 0, 221, 233, 244, 260, 272, 387, 409, 433, 460, 0], [0, 0, 291, 306, 325, 345, 366, 0, 0, 234, 245, 261, 273, 388, 410, 434, 461, 0], [0, 0, 292, 307, 326, 346, 367, 0, 0, 0, 246, 262, 274, 389, 411, 435, 462, 0], [0, 0, 293, 308, 327, 347, 368, 0, 0, 0, 0, 263, 275, 390, 412, 436, 463, 0], [0, 0, 294, 309, 328, 348, 369, 0, 0, 0, 0, 0, 276, 391, 413, 437, 464, 0], [0, 0, 295, 310, 329, 349, 370, 0, 0, 0, 0, 0, 0, 392, 414, 438, 465, 0], [0, 0, 0, 0, 0, 0, 0, 0, 0, 0, 0, 0, 0, 0, 420, 444, 471, 0], [0, 0, 0, 0, 0, 0, 0, 0, 0, 0, 0, 0, 0, 0, 0, 445, 472, 0], [0, 0, 0, 0, 0, 0, 0, 0, 0, 0, 0, 0, 0, 0, 0, 0, 473, 0], [0, 0, 0, 0, 0, 0, 0, 0, 0, 0, 0, 0, 0, 0, 0, 0, 0, 0], [195, 200, 287, 302, 321, 341, 362, 209, 218, 230, 241, 257, 269, 384, 406, 430, 457, 0]]
theorem g_ne : ∀ i, i < 18 → ∀ j, j < 18 → i ≠ j → (flatC GN)[(p_ne.getD i []).getD j 0]? = some (Cond.not (Cond.eq (stT i) (stT j))) ∨ (flatC GN)[(p_ne.getD j []).getD i 0]? = some (Cond.not (Cond.eq (stT j) (stT i))) := by decide +kernel
def p_wn : List (List Nat) := [[0, 90, 100, 111, 123, 57, 64, 72, 136, 150, 165], [0, 0, 104, 115, 127, 0, 0, 0, 140, 154, 169], [0, 0, 0, 116, 128, 0, 0, 0, 141, 155, 170], [0, 0, 0, 0, 129, 0, 0, 0, 142, 156, 171], [0, 0, 0, 0, 0, 0, 0, 0, 143, 157, 172], [0, 91, 101, 112, 124, 0, 65, 73, 137, 151, 166], [0, 92, 102, 113, 125, 0, 0, 74, 138, 152, 167], [0, 93, 103, 114, 126, 0, 0, 0, 139, 153, 168], [0, 0, 0, 0, 0, 0, 0, 0, 0, 158, 173], [0, 0, 0, 0, 0, 0, 0, 0, 0, 0, 174], [0, 0, 0, 0, 0, 0, 0, 0, 0, 0, 0]]
theorem g_wn : ∀ i, i < 11 → ∀ j, j < 11 → i ≠ j → (flatC GN)[(p_wn.getD i []).getD j 0]? = some (Cond.not (Cond.eq (.static "NumberFerries$Word" (wnm i) "LNumberFerries$Word;") (.static "NumberFerries$Word" (wnm j) "LNumberFerries$Word;"))) ∨ (flatC GN)[(p_wn.getD j []).getD i 0]? = some (Cond.not (Cond.eq (.static "NumberFerries$Word" (wnm j) "LNumberFerries$Word;") (.static "NumberFerries$Word" (wnm i) "LNumberFerries$Word;"))) := by decide +kernel
def p_we : List Nat := [4, 84, 94, 105, 117, 51, 58, 66, 130, 144, 159]
theorem g_we : ∀ i, i < 11 → (flatC GN)[p_we.getD i 0]? = some (Cond.exactly (.static "NumberFerries$Word" (wnm i) "LNumberFerries$Word;") "NumberFerries$Word") := by decide +kernel
def p_sp : List Nat := [6, 86, 96, 107, 119, 53, 60, 68, 132, 146, 161]
theorem g_sp : ∀ i, i < 11 → (flatC GN)[p_sp.getD i 0]? = some (Cond.eq (.field (.static "NumberFerries$Word" (wnm i) "LNumberFerries$Word;") "NumberFerries$Word" "spelling" "Ljava/lang/String;") (stT (wsp i))) := by decide +kernel
def p_sl : List Nat := [7, 87, 97, 108, 120, 54, 61, 69, 133, 147, 162]
theorem g_sl : ∀ i, i < 11 → (flatC GN)[p_sl.getD i 0]? = some (Cond.eq (.field (.static "NumberFerries$Word" (wnm i) "LNumberFerries$Word;") "NumberFerries$Word" "slots" "Ljava/lang/String;") (stT (wsl i))) := by decide +kernel
def p_tk : List Nat := [8, 88, 98, 109, 121, 55, 62, 70, 134, 148, 163]
theorem g_tk : ∀ i, i < 11 → (flatC GN)[p_tk.getD i 0]? = some (Cond.eq (.field (.static "NumberFerries$Word" (wnm i) "LNumberFerries$Word;") "NumberFerries$Word" "thingKind" "I") (.int (wtk i))) := by decide +kernel
def p_fk : List Nat := [9, 89, 99, 110, 122, 56, 63, 71, 135, 149, 164]
theorem g_fk : ∀ i, i < 11 → (flatC GN)[p_fk.getD i 0]? = some (Cond.eq (.field (.static "NumberFerries$Word" (wnm i) "LNumberFerries$Word;") "NumberFerries$Word" "ferryKind" "I") (.int (wfk i))) := by decide +kernel
def p_ls : List Nat := [206, 1182, 1183, 1184, 1185, 577, 579, 581, 1186, 1187, 1188]
theorem g_ls : ∀ i, i < 11 → tables_1[p_ls.getD i 0]? = some (Cond.laysStatic "NumberFerries$Word" (wnm i) "LNumberFerries$Word;") := by decide +kernel
theorem a_WORDS : (flatC GN)[12]? = some (Cond.arrayOf (.static "NumberFerries$Reader" "WORDS" "[LNumberFerries$Word;") (.object "NumberFerries$Word")) := by decide +kernel
theorem l_WORDS : (flatC GN)[13]? = some (Cond.eq (.length (.static "NumberFerries$Reader" "WORDS" "[LNumberFerries$Word;")) (.int (Int32.ofNat 11))) := by decide +kernel
def p_vWORDS : List Nat := [15, 16, 17, 18, 19, 20, 21, 22, 23, 24, 25]
theorem g_vWORDS : ∀ i, i < 11 → (flatC GN)[p_vWORDS.getD i 0]? = some (Cond.eq (.elem (.static "NumberFerries$Reader" "WORDS" "[LNumberFerries$Word;") (.int (Int32.ofNat i))) (.static "NumberFerries$Word" (wnm i) "LNumberFerries$Word;")) := by decide +kernel
theorem s_WORDS : Cond.laysStatic "NumberFerries$Reader" "WORDS" "[LNumberFerries$Word;" ∈ lw_tbl := lt_at 398 (by decide +kernel)
theorem a_LEAST : (flatC GN)[32]? = some (Cond.arrayOf (.static "NumberFerries$Reader" "LEAST" "[I") (.int)) := by decide +kernel
theorem l_LEAST : (flatC GN)[33]? = some (Cond.eq (.length (.static "NumberFerries$Reader" "LEAST" "[I")) (.int (Int32.ofNat 7))) := by decide +kernel
def p_vLEAST : List Nat := [34, 35, 36, 37, 38, 39, 40]
theorem g_vLEAST : ∀ i, i < 7 → (flatC GN)[p_vLEAST.getD i 0]? = some (Cond.eq (.elem (.static "NumberFerries$Reader" "LEAST" "[I") (.int (Int32.ofNat i))) (.int (nI (lstL.getD i 0)))) := by decide +kernel
theorem s_LEAST : Cond.laysStatic "NumberFerries$Reader" "LEAST" "[I" ∈ lw_tbl := lt_at 528 (by decide +kernel)
theorem a_MOST : (flatC GN)[42]? = some (Cond.arrayOf (.static "NumberFerries$Reader" "MOST" "[I") (.int)) := by decide +kernel
theorem l_MOST : (flatC GN)[43]? = some (Cond.eq (.length (.static "NumberFerries$Reader" "MOST" "[I")) (.int (Int32.ofNat 7))) := by decide +kernel
def p_vMOST : List Nat := [44, 45, 46, 47, 48, 49, 50]
theorem g_vMOST : ∀ i, i < 7 → (flatC GN)[p_vMOST.getD i 0]? = some (Cond.eq (.elem (.static "NumberFerries$Reader" "MOST" "[I") (.int (Int32.ofNat i))) (.int (nI (mstL.getD i 0)))) := by decide +kernel
theorem s_MOST : Cond.laysStatic "NumberFerries$Reader" "MOST" "[I" ∈ lw_tbl := lt_at 530 (by decide +kernel)
theorem a_OVER : (flatC GN)[76]? = some (Cond.arrayOf (.static "NumberFerries$Thing" "OVER" "[I") (.int)) := by decide +kernel
theorem l_OVER : (flatC GN)[77]? = some (Cond.eq (.length (.static "NumberFerries$Thing" "OVER" "[I")) (.int (Int32.ofNat 6))) := by decide +kernel
def p_vOVER : List Nat := [78, 79, 80, 81, 82, 83]
theorem g_vOVER : ∀ i, i < 6 → (flatC GN)[p_vOVER.getD i 0]? = some (Cond.eq (.elem (.static "NumberFerries$Thing" "OVER" "[I") (.int (Int32.ofNat i))) (.int (ovrL.getD i 0))) := by decide +kernel
theorem s_OVER : Cond.laysStatic "NumberFerries$Thing" "OVER" "[I" ∈ lw_tbl := lt_at 633 (by decide +kernel)
theorem c_CS : (flatC GN)[26]? = some (Cond.eq (.static "java/lang/String" "COMPACT_STRINGS" "Z") (.int (nI 1))) := by decide +kernel
theorem s_CS : Cond.laysStatic "java/lang/String" "COMPACT_STRINGS" "Z" ∈ lw_tbl := lt_at 412 (by decide +kernel)
theorem c_SF : (flatC GN)[27]? = some (Cond.isRef (.static "jdk/internal/util/Preconditions" "SIOOBE_FORMATTER" "Ljava/util/function/BiFunction;")) := by decide +kernel
theorem s_SF : Cond.laysStatic "jdk/internal/util/Preconditions" "SIOOBE_FORMATTER" "Ljava/util/function/BiFunction;" ∈ lw_tbl := lt_at 428 (by decide +kernel)
theorem s_SR : Cond.stringRef "NumberFerries$Reader" 145 "WBPVNRM" ∈ lw_tbl := lt_at 467 (by decide +kernel)
theorem s_OV : Cond.fieldLinkNest RX10 166 RX8 "OVER" "[I" "NumberFerries" ∈ lw_tbl := lt_at 632 (by decide +kernel)
theorem kC_0 {s : State} {b : Nat} (hts : ∀ w ∈ lw_tbl, w.before #[Value.ref b] s = true) (hgv : GN.before #[Value.ref b] s = true) : ∃ aw aS aV aT : Nat → Nat, kC aw aS aV aT (LA s) s s.heap := by
  have hs := flat_of_before _ hgv
  have hm : ∀ {i : Nat} {w : Cond}, (flatC GN)[i]? = some w → w.before #[Value.ref b] s = true := fun h => hs _ (List.mem_of_getElem? h)
  have hA : ∀ a : Nat, a < s.heap.size → ¬ LA s a := fun a h z => absurd z (Nat.not_le.mpr h)
  obtain ⟨aS, aV, hSS, hSe⟩ := vk_Sof (args := #[Value.ref b]) (s := s) (N := 18) (tm := stT) (len := lenS) (byt := bytS) (A := LA s) (fun i hi => ln_31 hi) (fun i hi => hm (g_ex i hi)) (fun i hi => hm (g_co i hi)) (fun i hi => hm (g_ar i hi)) (fun i hi => hm (g_le i hi)) (fun i hi j hj => hm (g_el i hi j (by have := ln_9 hi; unfold ln_ at this; omega) hj)) (fun i j hi hj hij => (g_ne i hi j hj hij).imp hm hm) hA
  have h0 : ∀ i : Nat, ∃ t : Nat, i < 11 → (Term.static "NumberFerries$Word" (wnm i) "LNumberFerries$Word;").eval #[Value.ref b] s none [] s = some (.ref t) := by
    intro i
    by_cases hi : i < 11
    · obtain ⟨a, c, cell, k, q1, q2, q3, q4, q5, q6, -⟩ := Cond.exactly_spec (hm (g_we i hi))
      exact ⟨a, fun _ => q1⟩
    · exact ⟨0, fun h => absurd h hi⟩
  obtain ⟨aw, had⟩ := Classical.axiomOfChoice h0
  obtain ⟨t0, e0, hT0⟩ := va_Tof (f := fun j => .ref (aw j)) (A := LA s) (N := 11) (by decide) (hm a_WORDS) (va_eqt (hm l_WORDS)) (fun j hj => va_eqv (hm (g_vWORDS j hj)) (had j hj)) hA
  obtain ⟨t1, e1, hT1⟩ := va_Tof (f := fun j => .int (nI (lstL.getD j 0))) (A := LA s) (N := 7) (by decide) (hm a_LEAST) (va_eqt (hm l_LEAST)) (fun j hj => va_eqt (hm (g_vLEAST j hj))) hA
  obtain ⟨t2, e2, hT2⟩ := va_Tof (f := fun j => .int (nI (mstL.getD j 0))) (A := LA s) (N := 7) (by decide) (hm a_MOST) (va_eqt (hm l_MOST)) (fun j hj => va_eqt (hm (g_vMOST j hj))) hA
  obtain ⟨t3, e3, hT3⟩ := va_Tof (f := fun j => .int (ovrL.getD j 0)) (A := LA s) (N := 6) (by decide) (hm a_OVER) (va_eqt (hm l_OVER)) (fun j hj => va_eqt (hm (g_vOVER j hj))) hA
  refine ⟨aw, aS, aV, fun k => if k = 0 then t0 else if k = 1 then t1 else if k = 2 then t2 else t3, fun i hi => ⟨?_, ?_, ?_, ?_, ?_⟩, fun i j hi hj e => ?_, hSS, ⟨?_, hT0⟩, ⟨?_, hT1⟩, ⟨?_, hT2⟩, ⟨?_, hT3⟩, ?_, ?_, ?_, ?_⟩
  · exact va_Zref (hts _ (lt_at _ (g_ls i hi))) (hts _ (tg_sub iniX9)) (had i hi) hA
  · exact vk_OFof (had i hi) (va_eqv (hm (g_sp i hi)) (hSe _ (wsp_lt hi))) hA
  · exact vk_OFof (had i hi) (va_eqv (hm (g_sl i hi)) (hSe _ (wsl_lt hi))) hA
  · exact vk_OFof (had i hi) (va_eqt (hm (g_tk i hi))) hA
  · exact vk_OFof (had i hi) (va_eqt (hm (g_fk i hi))) hA
  · by_cases hij : i = j
    · exact hij
    · rcases g_wn i hi j hj hij with h | h
      · exact absurd e (va_neR (hm h) (had i hi) (had j hj))
      · exact absurd e.symm (va_neR (hm h) (had j hj) (had i hi))
  · exact va_Zref (hts _ s_WORDS) (hts _ (tg_sub iniX2)) e0 hA
  · exact va_Zref (hts _ s_LEAST) (hts _ (tg_sub iniX2)) e1 hA
  · exact va_Zref (hts _ s_MOST) (hts _ (tg_sub iniX2)) e2 hA
  · exact va_Zref (hts _ s_OVER) (hts _ (tg_sub iniX8)) e3 hA
  · exact va_Zof (hts _ s_CS) (hts _ (tg_sub iniJ0)) (va_eqi (hm c_CS)) hA
  · exact va_Zqof (hts _ s_SF) (hts _ (tg_sub iniJ3)) (hm c_SF) hA
  · exact vk_R.of (hts _ s_SR) (hSe 17 (by decide))
  · exact va_Nw.of rfl (hts _ s_OV)
