section LAWC
variable {p : Program} {l : Launch} {e : Env} {s : State} {m : MethodId} {below : List Frame} {meth : Method} {c : Code} {b L : Nat} {xs : Nat → Int32} {D : va_G} {cI cT : ClassId} {A : Nat → Nat} {R : Nat → Option Nat} {aL : Nat × Nat} {i : Nat} {ls : Array Slot} {H : Heap} {locs : List Loc} {sk : List Value} {pc : Nat}
variable {cnt : Int32} {wX : Nat → Int32} {wY : Nat → Int32} {wP : Nat → Int32} {wl : Int32} {sR : Nat → Int32} {sC : Nat → Int32} {sS : Nat → Int32} {sE : Nat → Int32} {k1 : Int32} {k2 : Int32} {k3 : Int32} {k4 : Int32} {k5 : Int32} {st : Nat → Int32} {tc : Nat → Nat → Int32} {tz : Nat → Nat → Int32} {tr : Nat → Int32} {mw : Int32} {ml : Int32} {mp : Nat → Int32} {mq : Nat → Int32} {mX : Nat → Int32} {mY : Nat → Int32} {ms : Int32} {mst : Nat → Int32} {mr : Nat → Int32} {mc : Nat → Int32} {mo : Nat → Int32} {mu : Nat → Int32}
set_option maxHeartbeats 4000000 in
set_option maxRecDepth 100000 in
/-- case 15: tablet -/
theorem lw_c15 (C : lwC p s m meth c b L xs D cI cT A R aL) (hi : i + 6 ≤ L) (hl : lv_has ls 4 (lwL b A i)) (hI : lwI cnt wX wY wP wl sR sC sS sE k1 k2 k3 k4 k5 st tc tz tr mw ml mp mq mX mY ms mst mr mc mo mu) (hP : va_P D vwCl (lwW cI cT A R cnt wX wY wP wl sR sC sS sE k1 k2 k3 k4 k5 st tc tz tr mw ml mp mq mX mY ms mst mr mc mo mu) H) (hS : lwS s H locs) (hK : lwK p l e s m below meth c b D cI cT A R ls) : lwG p l e s m below meth c b H locs 1050 ls [] := by
  have C9 := C
  obtain ⟨C0, hX, hbl, hKn, hnd, hAd, hRr, hLz, hL⟩ := C9
  have C8 := C0
  obtain ⟨hx, hb, -⟩ := C8
  obtain ⟨hW, hSt, hT, hO⟩ := hI
  refine lv_aload_n hx hb dL_law_1050 rfl (lv_at hl 1 rfl) ?_
  refine lw_ldi C hi hl hS 1 (by decide) (by decide) dL_law_1051 dL_law_1052 dL_law_1053 dL_law_1054 dL_law_1055 ?_
  refine lw_ldi C hi hl hS 2 (by decide) (by decide) dL_law_1056 dL_law_1057 dL_law_1058 dL_law_1059 dL_law_1060 ?_
  rcases lw_in (xs (i + 1)) with ho | ⟨t, ht, et⟩
  · have e2 := op_tablet_o ho mr mc (xs (i + 2))
    refine kV C0 (ctX6_tablet_o l (D := D) (cI := cI) (cT := cT) (xo := A 0) (wo := A 1) (x_tablets_a := A 11) (so := A 5) (x_steps_a := A 10) (x_refs := R) (x_stepCount := cnt) (res := -1) (lw_nin ho) rfl) gL_law_X6_tablet rfl kdvX6_tablet ⟨rfl, rfl⟩ ⟨by decide, by decide⟩ kW_blind (va_recv hKn hP (ci := 3) (q0 := 0) rfl rfl) (kW_use hKn (hP.sub [0, 11] rfl) kL_no) rfl hl [] rfl (Nat.le_of_ble_eq_true rfl) dL_law_1061 lw_rm ?_
    refine lv_aload_n hx hb dL_law_1064 rfl (lv_at hl 2 rfl) ?_
    refine lw_ldi C hi hl hS 1 (by decide) (by decide) dL_law_1065 dL_law_1066 dL_law_1067 dL_law_1068 dL_law_1069 ?_
    refine lw_ldi C hi hl hS 2 (by decide) (by decide) dL_law_1070 dL_law_1071 dL_law_1072 dL_law_1073 dL_law_1074 ?_
    refine kVx C0 (ctX7_tablet l (D := D) (cI := cI) (cT := cT) (mo := A 24) (m_product_a := A 25) (m_place_a := A 26) (m_ofX_a := A 27) (m_ofY_a := A 28) (m_step_a := A 29) (m_rows_a := A 30) (m_cell_a := A 31) (m_overs_a := A 32) (m_sure_a := A 33) (m_isWorked := mw) (m_lines := ml) (m_product := mp) (m_place := mq) (m_ofX := mX) (m_ofY := mY) (m_steps := ms) (m_step := mst) (m_rows := mr) (m_cell := mc) (m_overs := mo) (m_sure := mu) (nd_sub hnd [24, 25, 26, 27, 28, 29, 30, 31, 32, 33] (by decide) rfl) e2) gL_law_X7_tablet rfl kdvX7_tablet ⟨rfl, rfl⟩ ⟨by decide, by decide⟩ kW_blind (va_recv hKn hP (ci := 4) (q0 := 24) rfl rfl) (kW_use hKn (hP.sub [24, 25, 26, 27, 28, 29, 30, 31, 32, 33] rfl) kL_no) rfl hl [.int (-1)] rfl (Nat.le_of_ble_eq_true rfl) dL_law_1075 lw_rm hS (fun q h => hAd q (mem_sub [24, 25, 26, 27, 28, 29, 30, 31, 32, 33] rfl q h)) (fun H1 locs1 hP1 hk1 hS1 => ?_)
    replace hP : va_P D vwCl (lwW cI cT A R cnt wX wY wP wl sR sC sS sE k1 k2 k3 k4 k5 st tc tz tr mw ml mp mq mX mY ms mst mr mc mo mu) H1 := kjoin hnd rfl hP hP1 hk1 [24, 25, 26, 27, 28, 29, 30, 31, 32, 33] rfl [(false, 0), (false, 1), (false, 2), (false, 3), (false, 4), (false, 5), (false, 6), (false, 7), (false, 8), (false, 9), (false, 10), (false, 11), (false, 12), (false, 13), (false, 14), (false, 15), (false, 16), (false, 17), (false, 18), (false, 19), (false, 20), (false, 21), (false, 22), (false, 23), (true, 0), (true, 1), (true, 2), (true, 3), (true, 4), (true, 5), (true, 6), (true, 7), (true, 8), (true, 9)] rfl rfl
    replace hS := hS1
    show lwG p l e s m below meth c b H1 locs1 1078 ls [.int (-1), .int (-1)]
    refine lw_cmpi C (tgt := 1627) dL_law_1078 (by decide) ?_
    exact hK cnt wX wY wP wl sR sC sS sE k1 k2 k3 k4 k5 st tc tz tr mw ml mp mq mX mY ms mst mr mc mo mu ⟨hW, hSt, hT, hO⟩ _ _ hP hS
  · obtain ⟨r, c', z', r', mr', mc', e1, e2, g1, g2, g3⟩ := op_tablet ht (hT t ht) (xs (i + 2))
    rw [et]
    refine cx_tablet C hi hl hP hS ht e1 (fun H1 locs1 hP1 hS1 => ?_)
    replace hP := hP1
    replace hS := hS1
    refine lv_aload_n hx hb dL_law_1064 rfl (lv_at hl 2 rfl) ?_
    refine lw_ldi C hi hl hS 1 (by decide) (by decide) dL_law_1065 dL_law_1066 dL_law_1067 dL_law_1068 dL_law_1069 ?_
    refine lw_ldi C hi hl hS 2 (by decide) (by decide) dL_law_1070 dL_law_1071 dL_law_1072 dL_law_1073 dL_law_1074 ?_
    rw [et]
    refine kVx C0 (ctX7_tablet l (D := D) (cI := cI) (cT := cT) (mo := A 24) (m_product_a := A 25) (m_place_a := A 26) (m_ofX_a := A 27) (m_ofY_a := A 28) (m_step_a := A 29) (m_rows_a := A 30) (m_cell_a := A 31) (m_overs_a := A 32) (m_sure_a := A 33) (m_isWorked := mw) (m_lines := ml) (m_product := mp) (m_place := mq) (m_ofX := mX) (m_ofY := mY) (m_steps := ms) (m_step := mst) (m_rows := mr) (m_cell := mc) (m_overs := mo) (m_sure := mu) (nd_sub hnd [24, 25, 26, 27, 28, 29, 30, 31, 32, 33] (by decide) rfl) e2) gL_law_X7_tablet rfl kdvX7_tablet ⟨rfl, rfl⟩ ⟨by decide, by decide⟩ kW_blind (va_recv hKn hP (ci := 4) (q0 := 24) rfl rfl) (kW_use hKn (hP.sub [24, 25, 26, 27, 28, 29, 30, 31, 32, 33] rfl) kL_no) rfl hl [.int r] rfl (Nat.le_of_ble_eq_true rfl) dL_law_1075 lw_rm hS (fun q h => hAd q (mem_sub [24, 25, 26, 27, 28, 29, 30, 31, 32, 33] rfl q h)) (fun H1 locs1 hP1 hk1 hS1 => ?_)
    replace hP : va_P D vwCl (lwW cI cT A R cnt wX wY wP wl sR sC sS sE k1 k2 k3 k4 k5 st (updF tc t c') (updF tz t z') (updF tr t r') mw ml mp mq mX mY ms mst mr' mc' mo mu) H1 := kjoin hnd rfl hP hP1 hk1 [24, 25, 26, 27, 28, 29, 30, 31, 32, 33] rfl [(false, 0), (false, 1), (false, 2), (false, 3), (false, 4), (false, 5), (false, 6), (false, 7), (false, 8), (false, 9), (false, 10), (false, 11), (false, 12), (false, 13), (false, 14), (false, 15), (false, 16), (false, 17), (false, 18), (false, 19), (false, 20), (false, 21), (false, 22), (false, 23), (true, 0), (true, 1), (true, 2), (true, 3), (true, 4), (true, 5), (true, 6), (true, 7), (true, 8), (true, 9)] rfl rfl
    replace hS := hS1
    show lwG p l e s m below meth c b H1 locs1 1078 ls [.int r, .int r]
    refine lw_cmpi C (tgt := 1627) dL_law_1078 (by decide) ?_
    exact hK cnt wX wY wP wl sR sC sS sE k1 k2 k3 k4 k5 st (updF tc t c') (updF tz t z') (updF tr t r') mw ml mp mq mX mY ms mst mr' mc' mo mu ⟨hW, hSt, lw_tab g1 g2 g3 hT, hO⟩ _ _ hP hS
set_option maxHeartbeats 4000000 in
set_option maxRecDepth 100000 in
/-- case 16: press -/
theorem lw_c16 (C : lwC p s m meth c b L xs D cI cT A R aL) (hi : i + 6 ≤ L) (hl : lv_has ls 4 (lwL b A i)) (hI : lwI cnt wX wY wP wl sR sC sS sE k1 k2 k3 k4 k5 st tc tz tr mw ml mp mq mX mY ms mst mr mc mo mu) (hP : va_P D vwCl (lwW cI cT A R cnt wX wY wP wl sR sC sS sE k1 k2 k3 k4 k5 st tc tz tr mw ml mp mq mX mY ms mst mr mc mo mu) H) (hS : lwS s H locs) (hK : lwK p l e s m below meth c b D cI cT A R ls) : lwG p l e s m below meth c b H locs 1083 ls [] := by
  have C9 := C
  obtain ⟨C0, hX, hbl, hKn, hnd, hAd, hRr, hLz, hL⟩ := C9
  have C8 := C0
  obtain ⟨hx, hb, -⟩ := C8
  obtain ⟨hW, hSt, hT, hO⟩ := hI
  refine lv_aload_n hx hb dL_law_1083 rfl (lv_at hl 1 rfl) ?_
  refine lw_ldi C hi hl hS 1 (by decide) (by decide) dL_law_1084 dL_law_1085 dL_law_1086 dL_law_1087 dL_law_1088 ?_
  refine lw_ldi C hi hl hS 2 (by decide) (by decide) dL_law_1089 dL_law_1090 dL_law_1091 dL_law_1092 dL_law_1093 ?_
  refine lw_ldi C hi hl hS 3 (by decide) (by decide) dL_law_1094 dL_law_1095 dL_law_1096 dL_law_1097 dL_law_1098 ?_
  refine lw_ldi C hi hl hS 4 (by decide) (by decide) dL_law_1099 dL_law_1100 dL_law_1101 dL_law_1102 dL_law_1103 ?_
  rcases lw_in (xs (i + 1)) with ho | ⟨t, ht, et⟩
  · have e2 := op_press_o ho mr mc (xs (i + 2)) (xs (i + 3)) (xs (i + 4))
    refine kV C0 (ctX6_press_o l (D := D) (cI := cI) (cT := cT) (xo := A 0) (wo := A 1) (x_tablets_a := A 11) (so := A 5) (x_steps_a := A 10) (x_refs := R) (x_stepCount := cnt) (res := -1) (lw_nin ho) rfl) gL_law_X6_press rfl kdvX6_press ⟨rfl, rfl⟩ ⟨by decide, by decide⟩ kW_blind (va_recv hKn hP (ci := 3) (q0 := 0) rfl rfl) (kW_use hKn (hP.sub [0, 11] rfl) kL_no) rfl hl [] rfl (Nat.le_of_ble_eq_true rfl) dL_law_1104 lw_rm ?_
    refine lv_aload_n hx hb dL_law_1107 rfl (lv_at hl 2 rfl) ?_
    refine lw_ldi C hi hl hS 1 (by decide) (by decide) dL_law_1108 dL_law_1109 dL_law_1110 dL_law_1111 dL_law_1112 ?_
    refine lw_ldi C hi hl hS 2 (by decide) (by decide) dL_law_1113 dL_law_1114 dL_law_1115 dL_law_1116 dL_law_1117 ?_
    refine lw_ldi C hi hl hS 3 (by decide) (by decide) dL_law_1118 dL_law_1119 dL_law_1120 dL_law_1121 dL_law_1122 ?_
    refine lw_ldi C hi hl hS 4 (by decide) (by decide) dL_law_1123 dL_law_1124 dL_law_1125 dL_law_1126 dL_law_1127 ?_
    refine kVx C0 (ctX7_press l (D := D) (cI := cI) (cT := cT) (mo := A 24) (m_product_a := A 25) (m_place_a := A 26) (m_ofX_a := A 27) (m_ofY_a := A 28) (m_step_a := A 29) (m_rows_a := A 30) (m_cell_a := A 31) (m_overs_a := A 32) (m_sure_a := A 33) (m_isWorked := mw) (m_lines := ml) (m_product := mp) (m_place := mq) (m_ofX := mX) (m_ofY := mY) (m_steps := ms) (m_step := mst) (m_rows := mr) (m_cell := mc) (m_overs := mo) (m_sure := mu) (nd_sub hnd [24, 25, 26, 27, 28, 29, 30, 31, 32, 33] (by decide) rfl) e2) gL_law_X7_press rfl kdvX7_press ⟨rfl, rfl⟩ ⟨by decide, by decide⟩ kW_blind (va_recv hKn hP (ci := 4) (q0 := 24) rfl rfl) (kW_use hKn (hP.sub [24, 25, 26, 27, 28, 29, 30, 31, 32, 33] rfl) kL_no) rfl hl [.int (-1)] rfl (Nat.le_of_ble_eq_true rfl) dL_law_1128 lw_rm hS (fun q h => hAd q (mem_sub [24, 25, 26, 27, 28, 29, 30, 31, 32, 33] rfl q h)) (fun H1 locs1 hP1 hk1 hS1 => ?_)
    replace hP : va_P D vwCl (lwW cI cT A R cnt wX wY wP wl sR sC sS sE k1 k2 k3 k4 k5 st tc tz tr mw ml mp mq mX mY ms mst mr mc mo mu) H1 := kjoin hnd rfl hP hP1 hk1 [24, 25, 26, 27, 28, 29, 30, 31, 32, 33] rfl [(false, 0), (false, 1), (false, 2), (false, 3), (false, 4), (false, 5), (false, 6), (false, 7), (false, 8), (false, 9), (false, 10), (false, 11), (false, 12), (false, 13), (false, 14), (false, 15), (false, 16), (false, 17), (false, 18), (false, 19), (false, 20), (false, 21), (false, 22), (false, 23), (true, 0), (true, 1), (true, 2), (true, 3), (true, 4), (true, 5), (true, 6), (true, 7), (true, 8), (true, 9)] rfl rfl
    replace hS := hS1
    show lwG p l e s m below meth c b H1 locs1 1131 ls [.int (-1), .int (-1)]
    refine lw_cmpi C (tgt := 1627) dL_law_1131 (by decide) ?_
    exact hK cnt wX wY wP wl sR sC sS sE k1 k2 k3 k4 k5 st tc tz tr mw ml mp mq mX mY ms mst mr mc mo mu ⟨hW, hSt, hT, hO⟩ _ _ hP hS
  · obtain ⟨r, c', z', mc', e1, e2, g1, g2⟩ := op_press ht (hT t ht) (xs (i + 2)) (xs (i + 3)) (xs (i + 4))
    rw [et]
    refine cx_press C hi hl hP hS ht e1 (fun H1 locs1 hP1 hS1 => ?_)
    replace hP := hP1
    replace hS := hS1
    refine lv_aload_n hx hb dL_law_1107 rfl (lv_at hl 2 rfl) ?_
    refine lw_ldi C hi hl hS 1 (by decide) (by decide) dL_law_1108 dL_law_1109 dL_law_1110 dL_law_1111 dL_law_1112 ?_
    refine lw_ldi C hi hl hS 2 (by decide) (by decide) dL_law_1113 dL_law_1114 dL_law_1115 dL_law_1116 dL_law_1117 ?_
    refine lw_ldi C hi hl hS 3 (by decide) (by decide) dL_law_1118 dL_law_1119 dL_law_1120 dL_law_1121 dL_law_1122 ?_
    refine lw_ldi C hi hl hS 4 (by decide) (by decide) dL_law_1123 dL_law_1124 dL_law_1125 dL_law_1126 dL_law_1127 ?_
    rw [et]
    refine kVx C0 (ctX7_press l (D := D) (cI := cI) (cT := cT) (mo := A 24) (m_product_a := A 25) (m_place_a := A 26) (m_ofX_a := A 27) (m_ofY_a := A 28) (m_step_a := A 29) (m_rows_a := A 30) (m_cell_a := A 31) (m_overs_a := A 32) (m_sure_a := A 33) (m_isWorked := mw) (m_lines := ml) (m_product := mp) (m_place := mq) (m_ofX := mX) (m_ofY := mY) (m_steps := ms) (m_step := mst) (m_rows := mr) (m_cell := mc) (m_overs := mo) (m_sure := mu) (nd_sub hnd [24, 25, 26, 27, 28, 29, 30, 31, 32, 33] (by decide) rfl) e2) gL_law_X7_press rfl kdvX7_press ⟨rfl, rfl⟩ ⟨by decide, by decide⟩ kW_blind (va_recv hKn hP (ci := 4) (q0 := 24) rfl rfl) (kW_use hKn (hP.sub [24, 25, 26, 27, 28, 29, 30, 31, 32, 33] rfl) kL_no) rfl hl [.int r] rfl (Nat.le_of_ble_eq_true rfl) dL_law_1128 lw_rm hS (fun q h => hAd q (mem_sub [24, 25, 26, 27, 28, 29, 30, 31, 32, 33] rfl q h)) (fun H1 locs1 hP1 hk1 hS1 => ?_)
    replace hP : va_P D vwCl (lwW cI cT A R cnt wX wY wP wl sR sC sS sE k1 k2 k3 k4 k5 st (updF tc t c') (updF tz t z') tr mw ml mp mq mX mY ms mst mr mc' mo mu) H1 := kjoin hnd rfl hP hP1 hk1 [24, 25, 26, 27, 28, 29, 30, 31, 32, 33] rfl [(false, 0), (false, 1), (false, 2), (false, 3), (false, 4), (false, 5), (false, 6), (false, 7), (false, 8), (false, 9), (false, 10), (false, 11), (false, 12), (false, 13), (false, 14), (false, 15), (false, 16), (false, 17), (false, 18), (false, 19), (false, 20), (false, 21), (false, 22), (false, 23), (true, 0), (true, 1), (true, 2), (true, 3), (true, 4), (true, 5), (true, 6), (true, 7), (true, 8), (true, 9)] rfl rfl
    replace hS := hS1
    show lwG p l e s m below meth c b H1 locs1 1131 ls [.int r, .int r]
    refine lw_cmpi C (tgt := 1627) dL_law_1131 (by decide) ?_
    exact hK cnt wX wY wP wl sR sC sS sE k1 k2 k3 k4 k5 st (updF tc t c') (updF tz t z') tr mw ml mp mq mX mY ms mst mr mc' mo mu ⟨hW, hSt, lw_tab2 g1 g2 hT, hO⟩ _ _ hP hS
set_option maxHeartbeats 4000000 in
set_option maxRecDepth 100000 in
/-- case 17: cell -/
theorem lw_c17 (C : lwC p s m meth c b L xs D cI cT A R aL) (hi : i + 6 ≤ L) (hl : lv_has ls 4 (lwL b A i)) (hI : lwI cnt wX wY wP wl sR sC sS sE k1 k2 k3 k4 k5 st tc tz tr mw ml mp mq mX mY ms mst mr mc mo mu) (hP : va_P D vwCl (lwW cI cT A R cnt wX wY wP wl sR sC sS sE k1 k2 k3 k4 k5 st tc tz tr mw ml mp mq mX mY ms mst mr mc mo mu) H) (hS : lwS s H locs) (hK : lwK p l e s m below meth c b D cI cT A R ls) : lwG p l e s m below meth c b H locs 1136 ls [] := by
  have C9 := C
  obtain ⟨C0, hX, hbl, hKn, hnd, hAd, hRr, hLz, hL⟩ := C9
  have C8 := C0
  obtain ⟨hx, hb, -⟩ := C8
  obtain ⟨hW, hSt, hT, hO⟩ := hI
  refine lv_aload_n hx hb dL_law_1136 rfl (lv_at hl 1 rfl) ?_
  refine lw_ldi C hi hl hS 1 (by decide) (by decide) dL_law_1137 dL_law_1138 dL_law_1139 dL_law_1140 dL_law_1141 ?_
  refine lw_ldi C hi hl hS 2 (by decide) (by decide) dL_law_1142 dL_law_1143 dL_law_1144 dL_law_1145 dL_law_1146 ?_
  refine lw_ldi C hi hl hS 3 (by decide) (by decide) dL_law_1147 dL_law_1148 dL_law_1149 dL_law_1150 dL_law_1151 ?_
  rcases lw_in (xs (i + 1)) with ho | ⟨t, ht, et⟩
  · have e2 := op_cell_o ho mr mc (xs (i + 2)) (xs (i + 3))
    refine kV C0 (ctX6_cell_o l (D := D) (cI := cI) (cT := cT) (xo := A 0) (wo := A 1) (x_tablets_a := A 11) (so := A 5) (x_steps_a := A 10) (x_refs := R) (x_stepCount := cnt) (res := -1) (lw_nin ho) rfl) gL_law_X6_cell rfl kdvX6_cell ⟨rfl, rfl⟩ ⟨by decide, by decide⟩ kW_blind (va_recv hKn hP (ci := 3) (q0 := 0) rfl rfl) (kW_use hKn (hP.sub [0, 11] rfl) kL_no) rfl hl [] rfl (Nat.le_of_ble_eq_true rfl) dL_law_1152 lw_rm ?_
    refine lv_aload_n hx hb dL_law_1155 rfl (lv_at hl 2 rfl) ?_
    refine lw_ldi C hi hl hS 1 (by decide) (by decide) dL_law_1156 dL_law_1157 dL_law_1158 dL_law_1159 dL_law_1160 ?_
    refine lw_ldi C hi hl hS 2 (by decide) (by decide) dL_law_1161 dL_law_1162 dL_law_1163 dL_law_1164 dL_law_1165 ?_
    refine lw_ldi C hi hl hS 3 (by decide) (by decide) dL_law_1166 dL_law_1167 dL_law_1168 dL_law_1169 dL_law_1170 ?_
    refine kV C0 (ctX7_cell l (D := D) (cI := cI) (cT := cT) (mo := A 24) (m_product_a := A 25) (m_place_a := A 26) (m_ofX_a := A 27) (m_ofY_a := A 28) (m_step_a := A 29) (m_rows_a := A 30) (m_cell_a := A 31) (m_overs_a := A 32) (m_sure_a := A 33) (m_isWorked := mw) (m_lines := ml) (m_product := mp) (m_place := mq) (m_ofX := mX) (m_ofY := mY) (m_steps := ms) (m_step := mst) (m_rows := mr) (m_cell := mc) (m_overs := mo) (m_sure := mu) e2) gL_law_X7_cell rfl kdvX7_cell ⟨rfl, rfl⟩ ⟨by decide, by decide⟩ kW_blind (va_recv hKn hP (ci := 4) (q0 := 24) rfl rfl) (kW_use hKn (hP.sub [24, 25, 26, 27, 28, 29, 30, 31, 32, 33] rfl) kL_no) rfl hl [.int (-1)] rfl (Nat.le_of_ble_eq_true rfl) dL_law_1171 lw_rm ?_
    refine lw_cmpi C (tgt := 1627) dL_law_1174 (by decide) ?_
    exact hK cnt wX wY wP wl sR sC sS sE k1 k2 k3 k4 k5 st tc tz tr mw ml mp mq mX mY ms mst mr mc mo mu ⟨hW, hSt, hT, hO⟩ _ _ hP hS
  · obtain ⟨r, e1, e2⟩ := op_cell ht (hT t ht) (xs (i + 2)) (xs (i + 3))
    rw [et]
    refine cx_cell C hi hl hP hS ht e1 ?_
    refine lv_aload_n hx hb dL_law_1155 rfl (lv_at hl 2 rfl) ?_
    refine lw_ldi C hi hl hS 1 (by decide) (by decide) dL_law_1156 dL_law_1157 dL_law_1158 dL_law_1159 dL_law_1160 ?_
    refine lw_ldi C hi hl hS 2 (by decide) (by decide) dL_law_1161 dL_law_1162 dL_law_1163 dL_law_1164 dL_law_1165 ?_
    refine lw_ldi C hi hl hS 3 (by decide) (by decide) dL_law_1166 dL_law_1167 dL_law_1168 dL_law_1169 dL_law_1170 ?_
    rw [et]
    refine kV C0 (ctX7_cell l (D := D) (cI := cI) (cT := cT) (mo := A 24) (m_product_a := A 25) (m_place_a := A 26) (m_ofX_a := A 27) (m_ofY_a := A 28) (m_step_a := A 29) (m_rows_a := A 30) (m_cell_a := A 31) (m_overs_a := A 32) (m_sure_a := A 33) (m_isWorked := mw) (m_lines := ml) (m_product := mp) (m_place := mq) (m_ofX := mX) (m_ofY := mY) (m_steps := ms) (m_step := mst) (m_rows := mr) (m_cell := mc) (m_overs := mo) (m_sure := mu) e2) gL_law_X7_cell rfl kdvX7_cell ⟨rfl, rfl⟩ ⟨by decide, by decide⟩ kW_blind (va_recv hKn hP (ci := 4) (q0 := 24) rfl rfl) (kW_use hKn (hP.sub [24, 25, 26, 27, 28, 29, 30, 31, 32, 33] rfl) kL_no) rfl hl [.int r] rfl (Nat.le_of_ble_eq_true rfl) dL_law_1171 lw_rm ?_
    refine lw_cmpi C (tgt := 1627) dL_law_1174 (by decide) ?_
    exact hK cnt wX wY wP wl sR sC sS sE k1 k2 k3 k4 k5 st tc tz tr mw ml mp mq mX mY ms mst mr mc mo mu ⟨hW, hSt, hT, hO⟩ _ _ hP hS
set_option maxHeartbeats 4000000 in
set_option maxRecDepth 100000 in
/-- case 18: copy -/
theorem lw_c18 (C : lwC p s m meth c b L xs D cI cT A R aL) (hi : i + 6 ≤ L) (hl : lv_has ls 4 (lwL b A i)) (hI : lwI cnt wX wY wP wl sR sC sS sE k1 k2 k3 k4 k5 st tc tz tr mw ml mp mq mX mY ms mst mr mc mo mu) (hP : va_P D vwCl (lwW cI cT A R cnt wX wY wP wl sR sC sS sE k1 k2 k3 k4 k5 st tc tz tr mw ml mp mq mX mY ms mst mr mc mo mu) H) (hS : lwS s H locs) (hK : lwK p l e s m below meth c b D cI cT A R ls) : lwG p l e s m below meth c b H locs 1179 ls [] := by
  have C9 := C
  obtain ⟨C0, hX, hbl, hKn, hnd, hAd, hRr, hLz, hL⟩ := C9
  have C8 := C0
  obtain ⟨hx, hb, -⟩ := C8
  obtain ⟨hW, hSt, hT, hO⟩ := hI
  refine lv_aload_n hx hb dL_law_1179 rfl (lv_at hl 1 rfl) ?_
  refine lw_ldi C hi hl hS 1 (by decide) (by decide) dL_law_1180 dL_law_1181 dL_law_1182 dL_law_1183 dL_law_1184 ?_
  refine lw_ldi C hi hl hS 2 (by decide) (by decide) dL_law_1185 dL_law_1186 dL_law_1187 dL_law_1188 dL_law_1189 ?_
  refine lw_ldi C hi hl hS 3 (by decide) (by decide) dL_law_1190 dL_law_1191 dL_law_1192 dL_law_1193 dL_law_1194 ?_
  refine lw_ldi C hi hl hS 4 (by decide) (by decide) dL_law_1195 dL_law_1196 dL_law_1197 dL_law_1198 dL_law_1199 ?_
  refine lw_ldi C hi hl hS 5 (by decide) (by decide) dL_law_1200 dL_law_1201 dL_law_1202 dL_law_1203 dL_law_1204 ?_
  rcases lw_in (xs (i + 1)) with ho | ⟨t, ht, et⟩
  · have e2 := op_copy_o ho mr mc (xs (i + 2)) (xs (i + 3)) (xs (i + 4)) (xs (i + 5))
    refine kV C0 (ctX6_copy_o l (D := D) (cI := cI) (cT := cT) (xo := A 0) (wo := A 1) (x_tablets_a := A 11) (so := A 5) (x_steps_a := A 10) (x_refs := R) (x_stepCount := cnt) (res := -1) (lw_nin ho) rfl) gL_law_X6_copy rfl kdvX6_copy ⟨rfl, rfl⟩ ⟨by decide, by decide⟩ kW_blind (va_recv hKn hP (ci := 3) (q0 := 0) rfl rfl) (kW_use hKn (hP.sub [0, 11] rfl) kL_no) rfl hl [] rfl (Nat.le_of_ble_eq_true rfl) dL_law_1205 lw_rm ?_
    refine lv_aload_n hx hb dL_law_1208 rfl (lv_at hl 2 rfl) ?_
    refine lw_ldi C hi hl hS 1 (by decide) (by decide) dL_law_1209 dL_law_1210 dL_law_1211 dL_law_1212 dL_law_1213 ?_
    refine lw_ldi C hi hl hS 2 (by decide) (by decide) dL_law_1214 dL_law_1215 dL_law_1216 dL_law_1217 dL_law_1218 ?_
    refine lw_ldi C hi hl hS 3 (by decide) (by decide) dL_law_1219 dL_law_1220 dL_law_1221 dL_law_1222 dL_law_1223 ?_
    refine lw_ldi C hi hl hS 4 (by decide) (by decide) dL_law_1224 dL_law_1225 dL_law_1226 dL_law_1227 dL_law_1228 ?_
    refine lw_ldi C hi hl hS 5 (by decide) (by decide) dL_law_1229 dL_law_1230 dL_law_1231 dL_law_1232 dL_law_1233 ?_
    refine kVx C0 (ctX7_copy l (D := D) (cI := cI) (cT := cT) (mo := A 24) (m_product_a := A 25) (m_place_a := A 26) (m_ofX_a := A 27) (m_ofY_a := A 28) (m_step_a := A 29) (m_rows_a := A 30) (m_cell_a := A 31) (m_overs_a := A 32) (m_sure_a := A 33) (m_isWorked := mw) (m_lines := ml) (m_product := mp) (m_place := mq) (m_ofX := mX) (m_ofY := mY) (m_steps := ms) (m_step := mst) (m_rows := mr) (m_cell := mc) (m_overs := mo) (m_sure := mu) (nd_sub hnd [24, 25, 26, 27, 28, 29, 30, 31, 32, 33] (by decide) rfl) e2) gL_law_X7_copy rfl kdvX7_copy ⟨rfl, rfl⟩ ⟨by decide, by decide⟩ kW_blind (va_recv hKn hP (ci := 4) (q0 := 24) rfl rfl) (kW_use hKn (hP.sub [24, 25, 26, 27, 28, 29, 30, 31, 32, 33] rfl) kL_no) rfl hl [.int (-1)] rfl (Nat.le_of_ble_eq_true rfl) dL_law_1234 lw_rm hS (fun q h => hAd q (mem_sub [24, 25, 26, 27, 28, 29, 30, 31, 32, 33] rfl q h)) (fun H1 locs1 hP1 hk1 hS1 => ?_)
    replace hP : va_P D vwCl (lwW cI cT A R cnt wX wY wP wl sR sC sS sE k1 k2 k3 k4 k5 st tc tz tr mw ml mp mq mX mY ms mst mr mc mo mu) H1 := kjoin hnd rfl hP hP1 hk1 [24, 25, 26, 27, 28, 29, 30, 31, 32, 33] rfl [(false, 0), (false, 1), (false, 2), (false, 3), (false, 4), (false, 5), (false, 6), (false, 7), (false, 8), (false, 9), (false, 10), (false, 11), (false, 12), (false, 13), (false, 14), (false, 15), (false, 16), (false, 17), (false, 18), (false, 19), (false, 20), (false, 21), (false, 22), (false, 23), (true, 0), (true, 1), (true, 2), (true, 3), (true, 4), (true, 5), (true, 6), (true, 7), (true, 8), (true, 9)] rfl rfl
    replace hS := hS1
    show lwG p l e s m below meth c b H1 locs1 1237 ls [.int (-1), .int (-1)]
    refine lw_cmpi C (tgt := 1627) dL_law_1237 (by decide) ?_
    exact hK cnt wX wY wP wl sR sC sS sE k1 k2 k3 k4 k5 st tc tz tr mw ml mp mq mX mY ms mst mr mc mo mu ⟨hW, hSt, hT, hO⟩ _ _ hP hS
  · obtain ⟨r, c', z', r', mr', mc', e1, e2, g1, g2, g3⟩ := op_copy ht (hT t ht) (xs (i + 2)) (xs (i + 3)) (xs (i + 4)) (xs (i + 5))
    rw [et]
    refine cx_copy C hi hl hP hS ht e1 (fun H1 locs1 hP1 hS1 => ?_)
    replace hP := hP1
    replace hS := hS1
    refine lv_aload_n hx hb dL_law_1208 rfl (lv_at hl 2 rfl) ?_
    refine lw_ldi C hi hl hS 1 (by decide) (by decide) dL_law_1209 dL_law_1210 dL_law_1211 dL_law_1212 dL_law_1213 ?_
    refine lw_ldi C hi hl hS 2 (by decide) (by decide) dL_law_1214 dL_law_1215 dL_law_1216 dL_law_1217 dL_law_1218 ?_
    refine lw_ldi C hi hl hS 3 (by decide) (by decide) dL_law_1219 dL_law_1220 dL_law_1221 dL_law_1222 dL_law_1223 ?_
    refine lw_ldi C hi hl hS 4 (by decide) (by decide) dL_law_1224 dL_law_1225 dL_law_1226 dL_law_1227 dL_law_1228 ?_
    refine lw_ldi C hi hl hS 5 (by decide) (by decide) dL_law_1229 dL_law_1230 dL_law_1231 dL_law_1232 dL_law_1233 ?_
    rw [et]
    refine kVx C0 (ctX7_copy l (D := D) (cI := cI) (cT := cT) (mo := A 24) (m_product_a := A 25) (m_place_a := A 26) (m_ofX_a := A 27) (m_ofY_a := A 28) (m_step_a := A 29) (m_rows_a := A 30) (m_cell_a := A 31) (m_overs_a := A 32) (m_sure_a := A 33) (m_isWorked := mw) (m_lines := ml) (m_product := mp) (m_place := mq) (m_ofX := mX) (m_ofY := mY) (m_steps := ms) (m_step := mst) (m_rows := mr) (m_cell := mc) (m_overs := mo) (m_sure := mu) (nd_sub hnd [24, 25, 26, 27, 28, 29, 30, 31, 32, 33] (by decide) rfl) e2) gL_law_X7_copy rfl kdvX7_copy ⟨rfl, rfl⟩ ⟨by decide, by decide⟩ kW_blind (va_recv hKn hP (ci := 4) (q0 := 24) rfl rfl) (kW_use hKn (hP.sub [24, 25, 26, 27, 28, 29, 30, 31, 32, 33] rfl) kL_no) rfl hl [.int r] rfl (Nat.le_of_ble_eq_true rfl) dL_law_1234 lw_rm hS (fun q h => hAd q (mem_sub [24, 25, 26, 27, 28, 29, 30, 31, 32, 33] rfl q h)) (fun H1 locs1 hP1 hk1 hS1 => ?_)
    replace hP : va_P D vwCl (lwW cI cT A R cnt wX wY wP wl sR sC sS sE k1 k2 k3 k4 k5 st (updF tc t c') (updF tz t z') (updF tr t r') mw ml mp mq mX mY ms mst mr' mc' mo mu) H1 := kjoin hnd rfl hP hP1 hk1 [24, 25, 26, 27, 28, 29, 30, 31, 32, 33] rfl [(false, 0), (false, 1), (false, 2), (false, 3), (false, 4), (false, 5), (false, 6), (false, 7), (false, 8), (false, 9), (false, 10), (false, 11), (false, 12), (false, 13), (false, 14), (false, 15), (false, 16), (false, 17), (false, 18), (false, 19), (false, 20), (false, 21), (false, 22), (false, 23), (true, 0), (true, 1), (true, 2), (true, 3), (true, 4), (true, 5), (true, 6), (true, 7), (true, 8), (true, 9)] rfl rfl
    replace hS := hS1
    show lwG p l e s m below meth c b H1 locs1 1237 ls [.int r, .int r]
    refine lw_cmpi C (tgt := 1627) dL_law_1237 (by decide) ?_
    exact hK cnt wX wY wP wl sR sC sS sE k1 k2 k3 k4 k5 st (updF tc t c') (updF tz t z') (updF tr t r') mw ml mp mq mX mY ms mst mr' mc' mo mu ⟨hW, hSt, lw_tab g1 g2 g3 hT, hO⟩ _ _ hP hS
set_option maxHeartbeats 4000000 in
set_option maxRecDepth 100000 in
/-- case 19: reading -/
theorem lw_c19 (C : lwC p s m meth c b L xs D cI cT A R aL) (hi : i + 6 ≤ L) (hl : lv_has ls 4 (lwL b A i)) (hI : lwI cnt wX wY wP wl sR sC sS sE k1 k2 k3 k4 k5 st tc tz tr mw ml mp mq mX mY ms mst mr mc mo mu) (hP : va_P D vwCl (lwW cI cT A R cnt wX wY wP wl sR sC sS sE k1 k2 k3 k4 k5 st tc tz tr mw ml mp mq mX mY ms mst mr mc mo mu) H) (hS : lwS s H locs) (hK : lwK p l e s m below meth c b D cI cT A R ls) : lwG p l e s m below meth c b H locs 1242 ls [] := by
  have C9 := C
  obtain ⟨C0, hX, hbl, hKn, hnd, hAd, hRr, hLz, hL⟩ := C9
  have C8 := C0
  obtain ⟨hx, hb, -⟩ := C8
  obtain ⟨hW, hSt, hT, hO⟩ := hI
  refine lv_aload_n hx hb dL_law_1242 rfl (lv_at hl 1 rfl) ?_
  refine lw_ldi C hi hl hS 1 (by decide) (by decide) dL_law_1243 dL_law_1244 dL_law_1245 dL_law_1246 dL_law_1247 ?_
  refine lw_ldi C hi hl hS 2 (by decide) (by decide) dL_law_1248 dL_law_1249 dL_law_1250 dL_law_1251 dL_law_1252 ?_
  rcases lw_in (xs (i + 1)) with ho | ⟨t, ht, et⟩
  · have e2 := op_reading_o ho mr mc mo (xs (i + 2))
    refine kV C0 (ctX6_reading_o l (D := D) (cI := cI) (cT := cT) (xo := A 0) (wo := A 1) (x_tablets_a := A 11) (so := A 5) (x_steps_a := A 10) (x_refs := R) (x_stepCount := cnt) (res := -1) (lw_nin ho) rfl) gL_law_X6_reading rfl kdvX6_reading ⟨rfl, rfl⟩ ⟨by decide, by decide⟩ kW_blind (va_recv hKn hP (ci := 3) (q0 := 0) rfl rfl) (kW_use hKn (hP.sub [0, 11] rfl) kL_no) rfl hl [] rfl (Nat.le_of_ble_eq_true rfl) dL_law_1253 lw_rm ?_
    refine lv_aload_n hx hb dL_law_1256 rfl (lv_at hl 2 rfl) ?_
    refine lw_ldi C hi hl hS 1 (by decide) (by decide) dL_law_1257 dL_law_1258 dL_law_1259 dL_law_1260 dL_law_1261 ?_
    refine lw_ldi C hi hl hS 2 (by decide) (by decide) dL_law_1262 dL_law_1263 dL_law_1264 dL_law_1265 dL_law_1266 ?_
    refine kVx C0 (ctX7_reading l (D := D) (cI := cI) (cT := cT) (mo := A 24) (m_product_a := A 25) (m_place_a := A 26) (m_ofX_a := A 27) (m_ofY_a := A 28) (m_step_a := A 29) (m_rows_a := A 30) (m_cell_a := A 31) (m_overs_a := A 32) (m_sure_a := A 33) (m_isWorked := mw) (m_lines := ml) (m_product := mp) (m_place := mq) (m_ofX := mX) (m_ofY := mY) (m_steps := ms) (m_step := mst) (m_rows := mr) (m_cell := mc) (m_overs := mo) (m_sure := mu) (nd_sub hnd [24, 25, 26, 27, 28, 29, 30, 31, 32, 33] (by decide) rfl) e2) gL_law_X7_reading rfl kdvX7_reading ⟨rfl, rfl⟩ ⟨by decide, by decide⟩ kW_blind (va_recv hKn hP (ci := 4) (q0 := 24) rfl rfl) (kW_use hKn (hP.sub [24, 25, 26, 27, 28, 29, 30, 31, 32, 33] rfl) kL_no) rfl hl [.int (-1)] rfl (Nat.le_of_ble_eq_true rfl) dL_law_1267 lw_rm hS (fun q h => hAd q (mem_sub [24, 25, 26, 27, 28, 29, 30, 31, 32, 33] rfl q h)) (fun H1 locs1 hP1 hk1 hS1 => ?_)
    replace hP : va_P D vwCl (lwW cI cT A R cnt wX wY wP wl sR sC sS sE k1 k2 k3 k4 k5 st tc tz tr mw ml mp mq mX mY ms mst mr mc mo mu) H1 := kjoin hnd rfl hP hP1 hk1 [24, 25, 26, 27, 28, 29, 30, 31, 32, 33] rfl [(false, 0), (false, 1), (false, 2), (false, 3), (false, 4), (false, 5), (false, 6), (false, 7), (false, 8), (false, 9), (false, 10), (false, 11), (false, 12), (false, 13), (false, 14), (false, 15), (false, 16), (false, 17), (false, 18), (false, 19), (false, 20), (false, 21), (false, 22), (false, 23), (true, 0), (true, 1), (true, 2), (true, 3), (true, 4), (true, 5), (true, 6), (true, 7), (true, 8), (true, 9)] rfl rfl
    replace hS := hS1
    show lwG p l e s m below meth c b H1 locs1 1270 ls [.int (-1), .int (-1)]
    refine lw_cmpi C (tgt := 1627) dL_law_1270 (by decide) ?_
    exact hK cnt wX wY wP wl sR sC sS sE k1 k2 k3 k4 k5 st tc tz tr mw ml mp mq mX mY ms mst mr mc mo mu ⟨hW, hSt, hT, hO⟩ _ _ hP hS
  · obtain ⟨r, a1, a2, a3, b1, b2, b3, b4, b5, o', e1, e2, g⟩ := op_reading ht (hT t ht) hO sR sC sS (xs (i + 2))
    rw [et]
    refine cx_reading C hi hl hP hS ht e1 (fun H1 locs1 hP1 hS1 => ?_)
    replace hP := hP1
    replace hS := hS1
    refine lv_aload_n hx hb dL_law_1256 rfl (lv_at hl 2 rfl) ?_
    refine lw_ldi C hi hl hS 1 (by decide) (by decide) dL_law_1257 dL_law_1258 dL_law_1259 dL_law_1260 dL_law_1261 ?_
    refine lw_ldi C hi hl hS 2 (by decide) (by decide) dL_law_1262 dL_law_1263 dL_law_1264 dL_law_1265 dL_law_1266 ?_
    rw [et]
    refine kVx C0 (ctX7_reading l (D := D) (cI := cI) (cT := cT) (mo := A 24) (m_product_a := A 25) (m_place_a := A 26) (m_ofX_a := A 27) (m_ofY_a := A 28) (m_step_a := A 29) (m_rows_a := A 30) (m_cell_a := A 31) (m_overs_a := A 32) (m_sure_a := A 33) (m_isWorked := mw) (m_lines := ml) (m_product := mp) (m_place := mq) (m_ofX := mX) (m_ofY := mY) (m_steps := ms) (m_step := mst) (m_rows := mr) (m_cell := mc) (m_overs := mo) (m_sure := mu) (nd_sub hnd [24, 25, 26, 27, 28, 29, 30, 31, 32, 33] (by decide) rfl) e2) gL_law_X7_reading rfl kdvX7_reading ⟨rfl, rfl⟩ ⟨by decide, by decide⟩ kW_blind (va_recv hKn hP (ci := 4) (q0 := 24) rfl rfl) (kW_use hKn (hP.sub [24, 25, 26, 27, 28, 29, 30, 31, 32, 33] rfl) kL_no) rfl hl [.int r] rfl (Nat.le_of_ble_eq_true rfl) dL_law_1267 lw_rm hS (fun q h => hAd q (mem_sub [24, 25, 26, 27, 28, 29, 30, 31, 32, 33] rfl q h)) (fun H1 locs1 hP1 hk1 hS1 => ?_)
    replace hP : va_P D vwCl (lwW cI cT A R cnt wX wY wP wl a1 a2 a3 sE b1 b2 b3 b4 b5 st tc tz tr mw ml mp mq mX mY ms mst mr mc o' mu) H1 := kjoin hnd rfl hP hP1 hk1 [24, 25, 26, 27, 28, 29, 30, 31, 32, 33] rfl [(false, 0), (false, 1), (false, 2), (false, 3), (false, 4), (false, 5), (false, 6), (false, 7), (false, 8), (false, 9), (false, 10), (false, 11), (false, 12), (false, 13), (false, 14), (false, 15), (false, 16), (false, 17), (false, 18), (false, 19), (false, 20), (false, 21), (false, 22), (false, 23), (true, 0), (true, 1), (true, 2), (true, 3), (true, 4), (true, 5), (true, 6), (true, 7), (true, 8), (true, 9)] rfl rfl
    replace hS := hS1
    show lwG p l e s m below meth c b H1 locs1 1270 ls [.int r, .int r]
    refine lw_cmpi C (tgt := 1627) dL_law_1270 (by decide) ?_
    exact hK cnt wX wY wP wl a1 a2 a3 sE b1 b2 b3 b4 b5 st tc tz tr mw ml mp mq mX mY ms mst mr mc o' mu ⟨hW, hSt, hT, g⟩ _ _ hP hS
set_option maxHeartbeats 4000000 in
set_option maxRecDepth 100000 in
/-- case 20: sure -/
theorem lw_c20 (C : lwC p s m meth c b L xs D cI cT A R aL) (hi : i + 6 ≤ L) (hl : lv_has ls 4 (lwL b A i)) (hI : lwI cnt wX wY wP wl sR sC sS sE k1 k2 k3 k4 k5 st tc tz tr mw ml mp mq mX mY ms mst mr mc mo mu) (hP : va_P D vwCl (lwW cI cT A R cnt wX wY wP wl sR sC sS sE k1 k2 k3 k4 k5 st tc tz tr mw ml mp mq mX mY ms mst mr mc mo mu) H) (hS : lwS s H locs) (hK : lwK p l e s m below meth c b D cI cT A R ls) : lwG p l e s m below meth c b H locs 1275 ls [] := by
  have C9 := C
  obtain ⟨C0, hX, hbl, hKn, hnd, hAd, hRr, hLz, hL⟩ := C9
  have C8 := C0
  obtain ⟨hx, hb, -⟩ := C8
  obtain ⟨hW, hSt, hT, hO⟩ := hI
  refine lv_aload_n hx hb dL_law_1275 rfl (lv_at hl 1 rfl) ?_
  refine lw_ldi C hi hl hS 1 (by decide) (by decide) dL_law_1276 dL_law_1277 dL_law_1278 dL_law_1279 dL_law_1280 ?_
  refine lw_ldi C hi hl hS 2 (by decide) (by decide) dL_law_1281 dL_law_1282 dL_law_1283 dL_law_1284 dL_law_1285 ?_
  refine lw_ldi C hi hl hS 3 (by decide) (by decide) dL_law_1286 dL_law_1287 dL_law_1288 dL_law_1289 dL_law_1290 ?_
  rcases lw_in (xs (i + 1)) with ho | ⟨t, ht, et⟩
  · have e2 := op_sure_o ho mr mc mo mu (xs (i + 2)) (xs (i + 3))
    refine kV C0 (ctX6_sure_o l (D := D) (cI := cI) (cT := cT) (xo := A 0) (wo := A 1) (x_tablets_a := A 11) (so := A 5) (x_steps_a := A 10) (x_refs := R) (x_stepCount := cnt) (res := -1) (lw_nin ho) rfl) gL_law_X6_sure rfl kdvX6_sure ⟨rfl, rfl⟩ ⟨by decide, by decide⟩ kW_blind (va_recv hKn hP (ci := 3) (q0 := 0) rfl rfl) (kW_use hKn (hP.sub [0, 11] rfl) kL_no) rfl hl [] rfl (Nat.le_of_ble_eq_true rfl) dL_law_1291 lw_rm ?_
    refine lv_aload_n hx hb dL_law_1294 rfl (lv_at hl 2 rfl) ?_
    refine lw_ldi C hi hl hS 1 (by decide) (by decide) dL_law_1295 dL_law_1296 dL_law_1297 dL_law_1298 dL_law_1299 ?_
    refine lw_ldi C hi hl hS 2 (by decide) (by decide) dL_law_1300 dL_law_1301 dL_law_1302 dL_law_1303 dL_law_1304 ?_
    refine lw_ldi C hi hl hS 3 (by decide) (by decide) dL_law_1305 dL_law_1306 dL_law_1307 dL_law_1308 dL_law_1309 ?_
    refine kVx C0 (ctX7_sure l (D := D) (cI := cI) (cT := cT) (mo := A 24) (m_product_a := A 25) (m_place_a := A 26) (m_ofX_a := A 27) (m_ofY_a := A 28) (m_step_a := A 29) (m_rows_a := A 30) (m_cell_a := A 31) (m_overs_a := A 32) (m_sure_a := A 33) (m_isWorked := mw) (m_lines := ml) (m_product := mp) (m_place := mq) (m_ofX := mX) (m_ofY := mY) (m_steps := ms) (m_step := mst) (m_rows := mr) (m_cell := mc) (m_overs := mo) (m_sure := mu) (nd_sub hnd [24, 25, 26, 27, 28, 29, 30, 31, 32, 33] (by decide) rfl) e2) gL_law_X7_sure rfl kdvX7_sure ⟨rfl, rfl⟩ ⟨by decide, by decide⟩ kW_blind (va_recv hKn hP (ci := 4) (q0 := 24) rfl rfl) (kW_use hKn (hP.sub [24, 25, 26, 27, 28, 29, 30, 31, 32, 33] rfl) kL_no) rfl hl [.int (-1)] rfl (Nat.le_of_ble_eq_true rfl) dL_law_1310 lw_rm hS (fun q h => hAd q (mem_sub [24, 25, 26, 27, 28, 29, 30, 31, 32, 33] rfl q h)) (fun H1 locs1 hP1 hk1 hS1 => ?_)
    replace hP : va_P D vwCl (lwW cI cT A R cnt wX wY wP wl sR sC sS sE k1 k2 k3 k4 k5 st tc tz tr mw ml mp mq mX mY ms mst mr mc mo mu) H1 := kjoin hnd rfl hP hP1 hk1 [24, 25, 26, 27, 28, 29, 30, 31, 32, 33] rfl [(false, 0), (false, 1), (false, 2), (false, 3), (false, 4), (false, 5), (false, 6), (false, 7), (false, 8), (false, 9), (false, 10), (false, 11), (false, 12), (false, 13), (false, 14), (false, 15), (false, 16), (false, 17), (false, 18), (false, 19), (false, 20), (false, 21), (false, 22), (false, 23), (true, 0), (true, 1), (true, 2), (true, 3), (true, 4), (true, 5), (true, 6), (true, 7), (true, 8), (true, 9)] rfl rfl
    replace hS := hS1
    show lwG p l e s m below meth c b H1 locs1 1313 ls [.int (-1), .int (-1)]
    refine lw_cmpi C (tgt := 1627) dL_law_1313 (by decide) ?_
    exact hK cnt wX wY wP wl sR sC sS sE k1 k2 k3 k4 k5 st tc tz tr mw ml mp mq mX mY ms mst mr mc mo mu ⟨hW, hSt, hT, hO⟩ _ _ hP hS
  · obtain ⟨r, a1, a2, a3, a4, b1, b2, b3, b4, b5, o', u', e1, e2, g⟩ := op_sure ht (hT t ht) hO sR sC sS sE k1 k2 k3 k4 k5 mu (xs (i + 2)) (xs (i + 3))
    rw [et]
    refine cx_sure C hi hl hP hS ht e1 (fun H1 locs1 hP1 hS1 => ?_)
    replace hP := hP1
    replace hS := hS1
    refine lv_aload_n hx hb dL_law_1294 rfl (lv_at hl 2 rfl) ?_
    refine lw_ldi C hi hl hS 1 (by decide) (by decide) dL_law_1295 dL_law_1296 dL_law_1297 dL_law_1298 dL_law_1299 ?_
    refine lw_ldi C hi hl hS 2 (by decide) (by decide) dL_law_1300 dL_law_1301 dL_law_1302 dL_law_1303 dL_law_1304 ?_
    refine lw_ldi C hi hl hS 3 (by decide) (by decide) dL_law_1305 dL_law_1306 dL_law_1307 dL_law_1308 dL_law_1309 ?_
    rw [et]
    refine kVx C0 (ctX7_sure l (D := D) (cI := cI) (cT := cT) (mo := A 24) (m_product_a := A 25) (m_place_a := A 26) (m_ofX_a := A 27) (m_ofY_a := A 28) (m_step_a := A 29) (m_rows_a := A 30) (m_cell_a := A 31) (m_overs_a := A 32) (m_sure_a := A 33) (m_isWorked := mw) (m_lines := ml) (m_product := mp) (m_place := mq) (m_ofX := mX) (m_ofY := mY) (m_steps := ms) (m_step := mst) (m_rows := mr) (m_cell := mc) (m_overs := mo) (m_sure := mu) (nd_sub hnd [24, 25, 26, 27, 28, 29, 30, 31, 32, 33] (by decide) rfl) e2) gL_law_X7_sure rfl kdvX7_sure ⟨rfl, rfl⟩ ⟨by decide, by decide⟩ kW_blind (va_recv hKn hP (ci := 4) (q0 := 24) rfl rfl) (kW_use hKn (hP.sub [24, 25, 26, 27, 28, 29, 30, 31, 32, 33] rfl) kL_no) rfl hl [.int r] rfl (Nat.le_of_ble_eq_true rfl) dL_law_1310 lw_rm hS (fun q h => hAd q (mem_sub [24, 25, 26, 27, 28, 29, 30, 31, 32, 33] rfl q h)) (fun H1 locs1 hP1 hk1 hS1 => ?_)
    replace hP : va_P D vwCl (lwW cI cT A R cnt wX wY wP wl a1 a2 a3 a4 b1 b2 b3 b4 b5 st tc tz tr mw ml mp mq mX mY ms mst mr mc o' u') H1 := kjoin hnd rfl hP hP1 hk1 [24, 25, 26, 27, 28, 29, 30, 31, 32, 33] rfl [(false, 0), (false, 1), (false, 2), (false, 3), (false, 4), (false, 5), (false, 6), (false, 7), (false, 8), (false, 9), (false, 10), (false, 11), (false, 12), (false, 13), (false, 14), (false, 15), (false, 16), (false, 17), (false, 18), (false, 19), (false, 20), (false, 21), (false, 22), (false, 23), (true, 0), (true, 1), (true, 2), (true, 3), (true, 4), (true, 5), (true, 6), (true, 7), (true, 8), (true, 9)] rfl rfl
    replace hS := hS1
    show lwG p l e s m below meth c b H1 locs1 1313 ls [.int r, .int r]
    refine lw_cmpi C (tgt := 1627) dL_law_1313 (by decide) ?_
    exact hK cnt wX wY wP wl a1 a2 a3 a4 b1 b2 b3 b4 b5 st tc tz tr mw ml mp mq mX mY ms mst mr mc o' u' ⟨hW, hSt, hT, g⟩ _ _ hP hS
set_option maxHeartbeats 4000000 in
set_option maxRecDepth 100000 in
/-- case 21: fill -/
theorem lw_c21 (C : lwC p s m meth c b L xs D cI cT A R aL) (hi : i + 6 ≤ L) (hl : lv_has ls 4 (lwL b A i)) (hI : lwI cnt wX wY wP wl sR sC sS sE k1 k2 k3 k4 k5 st tc tz tr mw ml mp mq mX mY ms mst mr mc mo mu) (hP : va_P D vwCl (lwW cI cT A R cnt wX wY wP wl sR sC sS sE k1 k2 k3 k4 k5 st tc tz tr mw ml mp mq mX mY ms mst mr mc mo mu) H) (hS : lwS s H locs) (hK : lwK p l e s m below meth c b D cI cT A R ls) : lwG p l e s m below meth c b H locs 1318 ls [] := by
  have C9 := C
  obtain ⟨C0, hX, hbl, hKn, hnd, hAd, hRr, hLz, hL⟩ := C9
  have C8 := C0
  obtain ⟨hx, hb, -⟩ := C8
  obtain ⟨hW, hSt, hT, hO⟩ := hI
  refine lv_aload_n hx hb dL_law_1318 rfl (lv_at hl 1 rfl) ?_
  refine lw_ldi C hi hl hS 1 (by decide) (by decide) dL_law_1319 dL_law_1320 dL_law_1321 dL_law_1322 dL_law_1323 ?_
  rcases lw_in (xs (i + 1)) with ho | ⟨t, ht, et⟩
  · have e2 := op_fill_o ho mr mc mo mu 
    refine kV C0 (ctX6_fill_o l (D := D) (cI := cI) (cT := cT) (xo := A 0) (wo := A 1) (x_tablets_a := A 11) (so := A 5) (x_steps_a := A 10) (x_refs := R) (x_stepCount := cnt) (res := -1) (lw_nin ho) rfl) gL_law_X6_fill rfl kdvX6_fill ⟨rfl, rfl⟩ ⟨by decide, by decide⟩ kW_blind (va_recv hKn hP (ci := 3) (q0 := 0) rfl rfl) (kW_use hKn (hP.sub [0, 11] rfl) kL_no) rfl hl [] rfl (Nat.le_of_ble_eq_true rfl) dL_law_1324 lw_rm ?_
    refine lv_aload_n hx hb dL_law_1327 rfl (lv_at hl 2 rfl) ?_
    refine lw_ldi C hi hl hS 1 (by decide) (by decide) dL_law_1328 dL_law_1329 dL_law_1330 dL_law_1331 dL_law_1332 ?_
    refine kVx C0 (ctX7_fill l (D := D) (cI := cI) (cT := cT) (mo := A 24) (m_product_a := A 25) (m_place_a := A 26) (m_ofX_a := A 27) (m_ofY_a := A 28) (m_step_a := A 29) (m_rows_a := A 30) (m_cell_a := A 31) (m_overs_a := A 32) (m_sure_a := A 33) (m_isWorked := mw) (m_lines := ml) (m_product := mp) (m_place := mq) (m_ofX := mX) (m_ofY := mY) (m_steps := ms) (m_step := mst) (m_rows := mr) (m_cell := mc) (m_overs := mo) (m_sure := mu) (nd_sub hnd [24, 25, 26, 27, 28, 29, 30, 31, 32, 33] (by decide) rfl) e2) gL_law_X7_fill rfl kdvX7_fill ⟨rfl, rfl⟩ ⟨by decide, by decide⟩ kW_blind (va_recv hKn hP (ci := 4) (q0 := 24) rfl rfl) (kW_use hKn (hP.sub [24, 25, 26, 27, 28, 29, 30, 31, 32, 33] rfl) kL_no) rfl hl [.int (-1)] rfl (Nat.le_of_ble_eq_true rfl) dL_law_1333 lw_rm hS (fun q h => hAd q (mem_sub [24, 25, 26, 27, 28, 29, 30, 31, 32, 33] rfl q h)) (fun H1 locs1 hP1 hk1 hS1 => ?_)
    replace hP : va_P D vwCl (lwW cI cT A R cnt wX wY wP wl sR sC sS sE k1 k2 k3 k4 k5 st tc tz tr mw ml mp mq mX mY ms mst mr mc mo mu) H1 := kjoin hnd rfl hP hP1 hk1 [24, 25, 26, 27, 28, 29, 30, 31, 32, 33] rfl [(false, 0), (false, 1), (false, 2), (false, 3), (false, 4), (false, 5), (false, 6), (false, 7), (false, 8), (false, 9), (false, 10), (false, 11), (false, 12), (false, 13), (false, 14), (false, 15), (false, 16), (false, 17), (false, 18), (false, 19), (false, 20), (false, 21), (false, 22), (false, 23), (true, 0), (true, 1), (true, 2), (true, 3), (true, 4), (true, 5), (true, 6), (true, 7), (true, 8), (true, 9)] rfl rfl
    replace hS := hS1
    show lwG p l e s m below meth c b H1 locs1 1336 ls [.int (-1), .int (-1)]
    refine lw_cmpi C (tgt := 1627) dL_law_1336 (by decide) ?_
    exact hK cnt wX wY wP wl sR sC sS sE k1 k2 k3 k4 k5 st tc tz tr mw ml mp mq mX mY ms mst mr mc mo mu ⟨hW, hSt, hT, hO⟩ _ _ hP hS
  · obtain ⟨r, a1, a2, a3, a4, b1, b2, b3, b4, b5, c', z', mc', o', u', e1, e2, g, g1, g2⟩ := op_fill ht (hT t ht) hO sR sC sS sE mu
    rw [et]
    refine cx_fill C hi hl hP hS ht e1 (fun H1 locs1 hP1 hS1 => ?_)
    replace hP := hP1
    replace hS := hS1
    refine lv_aload_n hx hb dL_law_1327 rfl (lv_at hl 2 rfl) ?_
    refine lw_ldi C hi hl hS 1 (by decide) (by decide) dL_law_1328 dL_law_1329 dL_law_1330 dL_law_1331 dL_law_1332 ?_
    rw [et]
    refine kVx C0 (ctX7_fill l (D := D) (cI := cI) (cT := cT) (mo := A 24) (m_product_a := A 25) (m_place_a := A 26) (m_ofX_a := A 27) (m_ofY_a := A 28) (m_step_a := A 29) (m_rows_a := A 30) (m_cell_a := A 31) (m_overs_a := A 32) (m_sure_a := A 33) (m_isWorked := mw) (m_lines := ml) (m_product := mp) (m_place := mq) (m_ofX := mX) (m_ofY := mY) (m_steps := ms) (m_step := mst) (m_rows := mr) (m_cell := mc) (m_overs := mo) (m_sure := mu) (nd_sub hnd [24, 25, 26, 27, 28, 29, 30, 31, 32, 33] (by decide) rfl) e2) gL_law_X7_fill rfl kdvX7_fill ⟨rfl, rfl⟩ ⟨by decide, by decide⟩ kW_blind (va_recv hKn hP (ci := 4) (q0 := 24) rfl rfl) (kW_use hKn (hP.sub [24, 25, 26, 27, 28, 29, 30, 31, 32, 33] rfl) kL_no) rfl hl [.int r] rfl (Nat.le_of_ble_eq_true rfl) dL_law_1333 lw_rm hS (fun q h => hAd q (mem_sub [24, 25, 26, 27, 28, 29, 30, 31, 32, 33] rfl q h)) (fun H1 locs1 hP1 hk1 hS1 => ?_)
    replace hP : va_P D vwCl (lwW cI cT A R cnt wX wY wP wl a1 a2 a3 a4 b1 b2 b3 b4 b5 st (updF tc t c') (updF tz t z') tr mw ml mp mq mX mY ms mst mr mc' o' u') H1 := kjoin hnd rfl hP hP1 hk1 [24, 25, 26, 27, 28, 29, 30, 31, 32, 33] rfl [(false, 0), (false, 1), (false, 2), (false, 3), (false, 4), (false, 5), (false, 6), (false, 7), (false, 8), (false, 9), (false, 10), (false, 11), (false, 12), (false, 13), (false, 14), (false, 15), (false, 16), (false, 17), (false, 18), (false, 19), (false, 20), (false, 21), (false, 22), (false, 23), (true, 0), (true, 1), (true, 2), (true, 3), (true, 4), (true, 5), (true, 6), (true, 7), (true, 8), (true, 9)] rfl rfl
    replace hS := hS1
    show lwG p l e s m below meth c b H1 locs1 1336 ls [.int r, .int r]
    refine lw_cmpi C (tgt := 1627) dL_law_1336 (by decide) ?_
    exact hK cnt wX wY wP wl a1 a2 a3 a4 b1 b2 b3 b4 b5 st (updF tc t c') (updF tz t z') tr mw ml mp mq mX mY ms mst mr mc' o' u' ⟨hW, hSt, lw_tab2 g1 g2 hT, g⟩ _ _ hP hS
set_option maxHeartbeats 4000000 in
set_option maxRecDepth 100000 in
/-- case 22: odd -/
theorem lw_c22 (C : lwC p s m meth c b L xs D cI cT A R aL) (hi : i + 6 ≤ L) (hl : lv_has ls 4 (lwL b A i)) (hI : lwI cnt wX wY wP wl sR sC sS sE k1 k2 k3 k4 k5 st tc tz tr mw ml mp mq mX mY ms mst mr mc mo mu) (hP : va_P D vwCl (lwW cI cT A R cnt wX wY wP wl sR sC sS sE k1 k2 k3 k4 k5 st tc tz tr mw ml mp mq mX mY ms mst mr mc mo mu) H) (hS : lwS s H locs) (hK : lwK p l e s m below meth c b D cI cT A R ls) : lwG p l e s m below meth c b H locs 1341 ls [] := by
  have C9 := C
  obtain ⟨C0, hX, hbl, hKn, hnd, hAd, hRr, hLz, hL⟩ := C9
  have C8 := C0
  obtain ⟨hx, hb, -⟩ := C8
  obtain ⟨hW, hSt, hT, hO⟩ := hI
  refine lv_aload_n hx hb dL_law_1341 rfl (lv_at hl 1 rfl) ?_
  refine lw_ldi C hi hl hS 1 (by decide) (by decide) dL_law_1342 dL_law_1343 dL_law_1344 dL_law_1345 dL_law_1346 ?_
  rcases lw_in (xs (i + 1)) with ho | ⟨t, ht, et⟩
  · have e2 := op_odd_o ho mr mc mo 
    refine kV C0 (ctX6_odd_o l (D := D) (cI := cI) (cT := cT) (xo := A 0) (wo := A 1) (x_tablets_a := A 11) (so := A 5) (x_steps_a := A 10) (x_refs := R) (x_stepCount := cnt) (res := -1) (lw_nin ho) rfl) gL_law_X6_odd rfl kdvX6_odd ⟨rfl, rfl⟩ ⟨by decide, by decide⟩ kW_blind (va_recv hKn hP (ci := 3) (q0 := 0) rfl rfl) (kW_use hKn (hP.sub [0, 11] rfl) kL_no) rfl hl [] rfl (Nat.le_of_ble_eq_true rfl) dL_law_1347 lw_rm ?_
    refine lv_aload_n hx hb dL_law_1350 rfl (lv_at hl 2 rfl) ?_
    refine lw_ldi C hi hl hS 1 (by decide) (by decide) dL_law_1351 dL_law_1352 dL_law_1353 dL_law_1354 dL_law_1355 ?_
    refine kVx C0 (ctX7_odd l (D := D) (cI := cI) (cT := cT) (mo := A 24) (m_product_a := A 25) (m_place_a := A 26) (m_ofX_a := A 27) (m_ofY_a := A 28) (m_step_a := A 29) (m_rows_a := A 30) (m_cell_a := A 31) (m_overs_a := A 32) (m_sure_a := A 33) (m_isWorked := mw) (m_lines := ml) (m_product := mp) (m_place := mq) (m_ofX := mX) (m_ofY := mY) (m_steps := ms) (m_step := mst) (m_rows := mr) (m_cell := mc) (m_overs := mo) (m_sure := mu) (nd_sub hnd [24, 25, 26, 27, 28, 29, 30, 31, 32, 33] (by decide) rfl) e2) gL_law_X7_odd rfl kdvX7_odd ⟨rfl, rfl⟩ ⟨by decide, by decide⟩ kW_blind (va_recv hKn hP (ci := 4) (q0 := 24) rfl rfl) (kW_use hKn (hP.sub [24, 25, 26, 27, 28, 29, 30, 31, 32, 33] rfl) kL_no) rfl hl [.int (-1)] rfl (Nat.le_of_ble_eq_true rfl) dL_law_1356 lw_rm hS (fun q h => hAd q (mem_sub [24, 25, 26, 27, 28, 29, 30, 31, 32, 33] rfl q h)) (fun H1 locs1 hP1 hk1 hS1 => ?_)
    replace hP : va_P D vwCl (lwW cI cT A R cnt wX wY wP wl sR sC sS sE k1 k2 k3 k4 k5 st tc tz tr mw ml mp mq mX mY ms mst mr mc mo mu) H1 := kjoin hnd rfl hP hP1 hk1 [24, 25, 26, 27, 28, 29, 30, 31, 32, 33] rfl [(false, 0), (false, 1), (false, 2), (false, 3), (false, 4), (false, 5), (false, 6), (false, 7), (false, 8), (false, 9), (false, 10), (false, 11), (false, 12), (false, 13), (false, 14), (false, 15), (false, 16), (false, 17), (false, 18), (false, 19), (false, 20), (false, 21), (false, 22), (false, 23), (true, 0), (true, 1), (true, 2), (true, 3), (true, 4), (true, 5), (true, 6), (true, 7), (true, 8), (true, 9)] rfl rfl
    replace hS := hS1
    show lwG p l e s m below meth c b H1 locs1 1359 ls [.int (-1), .int (-1)]
    refine lw_cmpi C (tgt := 1627) dL_law_1359 (by decide) ?_
    exact hK cnt wX wY wP wl sR sC sS sE k1 k2 k3 k4 k5 st tc tz tr mw ml mp mq mX mY ms mst mr mc mo mu ⟨hW, hSt, hT, hO⟩ _ _ hP hS
  · obtain ⟨r, a1, a2, a3, b1, b2, b3, b4, b5, o', e1, e2, g⟩ := op_odd ht (hT t ht) hO sR sC sS 
    rw [et]
    refine cx_odd C hi hl hP hS ht e1 (fun H1 locs1 hP1 hS1 => ?_)
    replace hP := hP1
    replace hS := hS1
    refine lv_aload_n hx hb dL_law_1350 rfl (lv_at hl 2 rfl) ?_
    refine lw_ldi C hi hl hS 1 (by decide) (by decide) dL_law_1351 dL_law_1352 dL_law_1353 dL_law_1354 dL_law_1355 ?_
    rw [et]
    refine kVx C0 (ctX7_odd l (D := D) (cI := cI) (cT := cT) (mo := A 24) (m_product_a := A 25) (m_place_a := A 26) (m_ofX_a := A 27) (m_ofY_a := A 28) (m_step_a := A 29) (m_rows_a := A 30) (m_cell_a := A 31) (m_overs_a := A 32) (m_sure_a := A 33) (m_isWorked := mw) (m_lines := ml) (m_product := mp) (m_place := mq) (m_ofX := mX) (m_ofY := mY) (m_steps := ms) (m_step := mst) (m_rows := mr) (m_cell := mc) (m_overs := mo) (m_sure := mu) (nd_sub hnd [24, 25, 26, 27, 28, 29, 30, 31, 32, 33] (by decide) rfl) e2) gL_law_X7_odd rfl kdvX7_odd ⟨rfl, rfl⟩ ⟨by decide, by decide⟩ kW_blind (va_recv hKn hP (ci := 4) (q0 := 24) rfl rfl) (kW_use hKn (hP.sub [24, 25, 26, 27, 28, 29, 30, 31, 32, 33] rfl) kL_no) rfl hl [.int r] rfl (Nat.le_of_ble_eq_true rfl) dL_law_1356 lw_rm hS (fun q h => hAd q (mem_sub [24, 25, 26, 27, 28, 29, 30, 31, 32, 33] rfl q h)) (fun H1 locs1 hP1 hk1 hS1 => ?_)
    replace hP : va_P D vwCl (lwW cI cT A R cnt wX wY wP wl a1 a2 a3 sE b1 b2 b3 b4 b5 st tc tz tr mw ml mp mq mX mY ms mst mr mc o' mu) H1 := kjoin hnd rfl hP hP1 hk1 [24, 25, 26, 27, 28, 29, 30, 31, 32, 33] rfl [(false, 0), (false, 1), (false, 2), (false, 3), (false, 4), (false, 5), (false, 6), (false, 7), (false, 8), (false, 9), (false, 10), (false, 11), (false, 12), (false, 13), (false, 14), (false, 15), (false, 16), (false, 17), (false, 18), (false, 19), (false, 20), (false, 21), (false, 22), (false, 23), (true, 0), (true, 1), (true, 2), (true, 3), (true, 4), (true, 5), (true, 6), (true, 7), (true, 8), (true, 9)] rfl rfl
    replace hS := hS1
    show lwG p l e s m below meth c b H1 locs1 1359 ls [.int r, .int r]
    refine lw_cmpi C (tgt := 1627) dL_law_1359 (by decide) ?_
    exact hK cnt wX wY wP wl a1 a2 a3 sE b1 b2 b3 b4 b5 st tc tz tr mw ml mp mq mX mY ms mst mr mc o' mu ⟨hW, hSt, hT, g⟩ _ _ hP hS
set_option maxHeartbeats 4000000 in
set_option maxRecDepth 100000 in
/-- case 23: triple -/
theorem lw_c23 (C : lwC p s m meth c b L xs D cI cT A R aL) (hi : i + 6 ≤ L) (hl : lv_has ls 4 (lwL b A i)) (hI : lwI cnt wX wY wP wl sR sC sS sE k1 k2 k3 k4 k5 st tc tz tr mw ml mp mq mX mY ms mst mr mc mo mu) (hP : va_P D vwCl (lwW cI cT A R cnt wX wY wP wl sR sC sS sE k1 k2 k3 k4 k5 st tc tz tr mw ml mp mq mX mY ms mst mr mc mo mu) H) (hS : lwS s H locs) (hK : lwK p l e s m below meth c b D cI cT A R ls) : lwG p l e s m below meth c b H locs 1364 ls [] := by
  have C9 := C
  obtain ⟨C0, hX, hbl, hKn, hnd, hAd, hRr, hLz, hL⟩ := C9
  have C8 := C0
  obtain ⟨hx, hb, -⟩ := C8
  obtain ⟨hW, hSt, hT, hO⟩ := hI
  refine lv_aload_n hx hb dL_law_1364 rfl (lv_at hl 1 rfl) ?_
  refine lw_ldi C hi hl hS 1 (by decide) (by decide) dL_law_1365 dL_law_1366 dL_law_1367 dL_law_1368 dL_law_1369 ?_
  refine lw_ldi C hi hl hS 2 (by decide) (by decide) dL_law_1370 dL_law_1371 dL_law_1372 dL_law_1373 dL_law_1374 ?_
  refine lw_ldi C hi hl hS 3 (by decide) (by decide) dL_law_1375 dL_law_1376 dL_law_1377 dL_law_1378 dL_law_1379 ?_
  rcases lw_in (xs (i + 1)) with ho | ⟨t, ht, et⟩
  · have e2 := op_triple_o ho mr mc (xs (i + 2)) (xs (i + 3))
    refine kV C0 (ctX6_triple_o l (D := D) (cI := cI) (cT := cT) (xo := A 0) (wo := A 1) (x_tablets_a := A 11) (so := A 5) (x_steps_a := A 10) (x_refs := R) (x_stepCount := cnt) (res := -1) (lw_nin ho) rfl) gL_law_X6_triple rfl kdvX6_triple ⟨rfl, rfl⟩ ⟨by decide, by decide⟩ kW_blind (va_recv hKn hP (ci := 3) (q0 := 0) rfl rfl) (kW_use hKn (hP.sub [0, 11] rfl) kL_no) rfl hl [] rfl (Nat.le_of_ble_eq_true rfl) dL_law_1380 lw_rm ?_
    refine lv_aload_n hx hb dL_law_1383 rfl (lv_at hl 2 rfl) ?_
    refine lw_ldi C hi hl hS 1 (by decide) (by decide) dL_law_1384 dL_law_1385 dL_law_1386 dL_law_1387 dL_law_1388 ?_
    refine lw_ldi C hi hl hS 2 (by decide) (by decide) dL_law_1389 dL_law_1390 dL_law_1391 dL_law_1392 dL_law_1393 ?_
    refine lw_ldi C hi hl hS 3 (by decide) (by decide) dL_law_1394 dL_law_1395 dL_law_1396 dL_law_1397 dL_law_1398 ?_
    refine kV C0 (ctX7_triple l (D := D) (cI := cI) (cT := cT) (mo := A 24) (m_product_a := A 25) (m_place_a := A 26) (m_ofX_a := A 27) (m_ofY_a := A 28) (m_step_a := A 29) (m_rows_a := A 30) (m_cell_a := A 31) (m_overs_a := A 32) (m_sure_a := A 33) (m_isWorked := mw) (m_lines := ml) (m_product := mp) (m_place := mq) (m_ofX := mX) (m_ofY := mY) (m_steps := ms) (m_step := mst) (m_rows := mr) (m_cell := mc) (m_overs := mo) (m_sure := mu) e2) gL_law_X7_triple rfl kdvX7_triple ⟨rfl, rfl⟩ ⟨by decide, by decide⟩ kW_blind (va_recv hKn hP (ci := 4) (q0 := 24) rfl rfl) (kW_use hKn (hP.sub [24, 25, 26, 27, 28, 29, 30, 31, 32, 33] rfl) kL_no) rfl hl [.int (-1)] rfl (Nat.le_of_ble_eq_true rfl) dL_law_1399 lw_rm ?_
    refine lw_cmpi C (tgt := 1627) dL_law_1402 (by decide) ?_
    exact hK cnt wX wY wP wl sR sC sS sE k1 k2 k3 k4 k5 st tc tz tr mw ml mp mq mX mY ms mst mr mc mo mu ⟨hW, hSt, hT, hO⟩ _ _ hP hS
  · obtain ⟨r, e1, e2⟩ := op_triple ht (hT t ht) (xs (i + 2)) (xs (i + 3))
    rw [et]
    refine cx_triple C hi hl hP hS ht e1 ?_
    refine lv_aload_n hx hb dL_law_1383 rfl (lv_at hl 2 rfl) ?_
    refine lw_ldi C hi hl hS 1 (by decide) (by decide) dL_law_1384 dL_law_1385 dL_law_1386 dL_law_1387 dL_law_1388 ?_
    refine lw_ldi C hi hl hS 2 (by decide) (by decide) dL_law_1389 dL_law_1390 dL_law_1391 dL_law_1392 dL_law_1393 ?_
    refine lw_ldi C hi hl hS 3 (by decide) (by decide) dL_law_1394 dL_law_1395 dL_law_1396 dL_law_1397 dL_law_1398 ?_
    rw [et]
    refine kV C0 (ctX7_triple l (D := D) (cI := cI) (cT := cT) (mo := A 24) (m_product_a := A 25) (m_place_a := A 26) (m_ofX_a := A 27) (m_ofY_a := A 28) (m_step_a := A 29) (m_rows_a := A 30) (m_cell_a := A 31) (m_overs_a := A 32) (m_sure_a := A 33) (m_isWorked := mw) (m_lines := ml) (m_product := mp) (m_place := mq) (m_ofX := mX) (m_ofY := mY) (m_steps := ms) (m_step := mst) (m_rows := mr) (m_cell := mc) (m_overs := mo) (m_sure := mu) e2) gL_law_X7_triple rfl kdvX7_triple ⟨rfl, rfl⟩ ⟨by decide, by decide⟩ kW_blind (va_recv hKn hP (ci := 4) (q0 := 24) rfl rfl) (kW_use hKn (hP.sub [24, 25, 26, 27, 28, 29, 30, 31, 32, 33] rfl) kL_no) rfl hl [.int r] rfl (Nat.le_of_ble_eq_true rfl) dL_law_1399 lw_rm ?_
    refine lw_cmpi C (tgt := 1627) dL_law_1402 (by decide) ?_
    exact hK cnt wX wY wP wl sR sC sS sE k1 k2 k3 k4 k5 st tc tz tr mw ml mp mq mX mY ms mst mr mc mo mu ⟨hW, hSt, hT, hO⟩ _ _ hP hS
set_option maxHeartbeats 4000000 in
set_option maxRecDepth 100000 in
/-- case 24: join -/
theorem lw_c24 (C : lwC p s m meth c b L xs D cI cT A R aL) (hi : i + 6 ≤ L) (hl : lv_has ls 4 (lwL b A i)) (hI : lwI cnt wX wY wP wl sR sC sS sE k1 k2 k3 k4 k5 st tc tz tr mw ml mp mq mX mY ms mst mr mc mo mu) (hP : va_P D vwCl (lwW cI cT A R cnt wX wY wP wl sR sC sS sE k1 k2 k3 k4 k5 st tc tz tr mw ml mp mq mX mY ms mst mr mc mo mu) H) (hS : lwS s H locs) (hK : lwK p l e s m below meth c b D cI cT A R ls) : lwG p l e s m below meth c b H locs 1407 ls [] := by
  have C9 := C
  obtain ⟨C0, hX, hbl, hKn, hnd, hAd, hRr, hLz, hL⟩ := C9
  have C8 := C0
  obtain ⟨hx, hb, -⟩ := C8
  obtain ⟨hW, hSt, hT, hO⟩ := hI
  refine lv_aload_n hx hb dL_law_1407 rfl (lv_at hl 1 rfl) ?_
  refine lw_ldi C hi hl hS 1 (by decide) (by decide) dL_law_1408 dL_law_1409 dL_law_1410 dL_law_1411 dL_law_1412 ?_
  refine lw_ldi C hi hl hS 2 (by decide) (by decide) dL_law_1413 dL_law_1414 dL_law_1415 dL_law_1416 dL_law_1417 ?_
  refine lw_ldi C hi hl hS 3 (by decide) (by decide) dL_law_1418 dL_law_1419 dL_law_1420 dL_law_1421 dL_law_1422 ?_
  rcases lw_in (xs (i + 1)) with ho | ⟨t, ht, et⟩
  · rcases lw_in (xs (i + 2)) with ho1 | ⟨u, hu, eu⟩
    · have e2 := op_join_o1 ho mr mc (xs (i + 2)) (xs (i + 3))
      refine kV C0 (ctX6_join_oo l (D := D) (cI := cI) (cT := cT) (xo := A 0) (wo := A 1) (x_tablets_a := A 11) (so := A 5) (x_steps_a := A 10) (x_refs := R) (x_stepCount := cnt) (res := -1) (lw_nin ho) (lw_nin ho1) rfl) gL_law_X6_join rfl kdvX6_join ⟨rfl, rfl⟩ ⟨by decide, by decide⟩ kW_blind (va_recv hKn hP (ci := 3) (q0 := 0) rfl rfl) (kW_use hKn (hP.sub [0, 11] rfl) kL_no) rfl hl [] rfl (Nat.le_of_ble_eq_true rfl) dL_law_1423 lw_rm ?_
      refine lv_aload_n hx hb dL_law_1426 rfl (lv_at hl 2 rfl) ?_
      refine lw_ldi C hi hl hS 1 (by decide) (by decide) dL_law_1427 dL_law_1428 dL_law_1429 dL_law_1430 dL_law_1431 ?_
      refine lw_ldi C hi hl hS 2 (by decide) (by decide) dL_law_1432 dL_law_1433 dL_law_1434 dL_law_1435 dL_law_1436 ?_
      refine lw_ldi C hi hl hS 3 (by decide) (by decide) dL_law_1437 dL_law_1438 dL_law_1439 dL_law_1440 dL_law_1441 ?_
      refine kVx C0 (ctX7_join l (D := D) (cI := cI) (cT := cT) (mo := A 24) (m_product_a := A 25) (m_place_a := A 26) (m_ofX_a := A 27) (m_ofY_a := A 28) (m_step_a := A 29) (m_rows_a := A 30) (m_cell_a := A 31) (m_overs_a := A 32) (m_sure_a := A 33) (m_isWorked := mw) (m_lines := ml) (m_product := mp) (m_place := mq) (m_ofX := mX) (m_ofY := mY) (m_steps := ms) (m_step := mst) (m_rows := mr) (m_cell := mc) (m_overs := mo) (m_sure := mu) (nd_sub hnd [24, 25, 26, 27, 28, 29, 30, 31, 32, 33] (by decide) rfl) e2) gL_law_X7_join rfl kdvX7_join ⟨rfl, rfl⟩ ⟨by decide, by decide⟩ kW_blind (va_recv hKn hP (ci := 4) (q0 := 24) rfl rfl) (kW_use hKn (hP.sub [24, 25, 26, 27, 28, 29, 30, 31, 32, 33] rfl) kL_no) rfl hl [.int (-1)] rfl (Nat.le_of_ble_eq_true rfl) dL_law_1442 lw_rm hS (fun q h => hAd q (mem_sub [24, 25, 26, 27, 28, 29, 30, 31, 32, 33] rfl q h)) (fun H1 locs1 hP1 hk1 hS1 => ?_)
      replace hP : va_P D vwCl (lwW cI cT A R cnt wX wY wP wl sR sC sS sE k1 k2 k3 k4 k5 st tc tz tr mw ml mp mq mX mY ms mst mr mc mo mu) H1 := kjoin hnd rfl hP hP1 hk1 [24, 25, 26, 27, 28, 29, 30, 31, 32, 33] rfl [(false, 0), (false, 1), (false, 2), (false, 3), (false, 4), (false, 5), (false, 6), (false, 7), (false, 8), (false, 9), (false, 10), (false, 11), (false, 12), (false, 13), (false, 14), (false, 15), (false, 16), (false, 17), (false, 18), (false, 19), (false, 20), (false, 21), (false, 22), (false, 23), (true, 0), (true, 1), (true, 2), (true, 3), (true, 4), (true, 5), (true, 6), (true, 7), (true, 8), (true, 9)] rfl rfl
      replace hS := hS1
      show lwG p l e s m below meth c b H1 locs1 1445 ls [.int (-1), .int (-1)]
      refine lw_cmpi C (tgt := 1627) dL_law_1445 (by decide) ?_
      exact hK cnt wX wY wP wl sR sC sS sE k1 k2 k3 k4 k5 st tc tz tr mw ml mp mq mX mY ms mst mr mc mo mu ⟨hW, hSt, hT, hO⟩ _ _ hP hS
    · have e2 := op_join_o1 ho mr mc (nI u) (xs (i + 3))
      rw [eu]
      refine kV C0 (ctX6_join_oi l (D := D) (cI := cI) (cT := cT) (xo := A 0) (wo := A 1) (x_tablets_a := A 11) (so := A 5) (x_steps_a := A 10) (uo := A (12 + 3 * u)) (x_refs := R) (x_stepCount := cnt) (res := -1) (lw_nin ho) (vp_in_nI hu (by decide)) (by rw [nI_clamp (by omega)]; exact hRr u hu) rfl) gL_law_X6_join rfl kdvX6_join ⟨rfl, rfl⟩ ⟨by decide, by decide⟩ kW_blind (va_recv hKn hP (ci := 3) (q0 := 0) rfl rfl) (kW_use hKn (hP.sub [0, 11] rfl) kL_no) rfl hl [] rfl (Nat.le_of_ble_eq_true rfl) dL_law_1423 lw_rm ?_
      refine lv_aload_n hx hb dL_law_1426 rfl (lv_at hl 2 rfl) ?_
      refine lw_ldi C hi hl hS 1 (by decide) (by decide) dL_law_1427 dL_law_1428 dL_law_1429 dL_law_1430 dL_law_1431 ?_
      refine lw_ldi C hi hl hS 2 (by decide) (by decide) dL_law_1432 dL_law_1433 dL_law_1434 dL_law_1435 dL_law_1436 ?_
      refine lw_ldi C hi hl hS 3 (by decide) (by decide) dL_law_1437 dL_law_1438 dL_law_1439 dL_law_1440 dL_law_1441 ?_
      rw [eu]
      refine kVx C0 (ctX7_join l (D := D) (cI := cI) (cT := cT) (mo := A 24) (m_product_a := A 25) (m_place_a := A 26) (m_ofX_a := A 27) (m_ofY_a := A 28) (m_step_a := A 29) (m_rows_a := A 30) (m_cell_a := A 31) (m_overs_a := A 32) (m_sure_a := A 33) (m_isWorked := mw) (m_lines := ml) (m_product := mp) (m_place := mq) (m_ofX := mX) (m_ofY := mY) (m_steps := ms) (m_step := mst) (m_rows := mr) (m_cell := mc) (m_overs := mo) (m_sure := mu) (nd_sub hnd [24, 25, 26, 27, 28, 29, 30, 31, 32, 33] (by decide) rfl) e2) gL_law_X7_join rfl kdvX7_join ⟨rfl, rfl⟩ ⟨by decide, by decide⟩ kW_blind (va_recv hKn hP (ci := 4) (q0 := 24) rfl rfl) (kW_use hKn (hP.sub [24, 25, 26, 27, 28, 29, 30, 31, 32, 33] rfl) kL_no) rfl hl [.int (-1)] rfl (Nat.le_of_ble_eq_true rfl) dL_law_1442 lw_rm hS (fun q h => hAd q (mem_sub [24, 25, 26, 27, 28, 29, 30, 31, 32, 33] rfl q h)) (fun H1 locs1 hP1 hk1 hS1 => ?_)
      replace hP : va_P D vwCl (lwW cI cT A R cnt wX wY wP wl sR sC sS sE k1 k2 k3 k4 k5 st tc tz tr mw ml mp mq mX mY ms mst mr mc mo mu) H1 := kjoin hnd rfl hP hP1 hk1 [24, 25, 26, 27, 28, 29, 30, 31, 32, 33] rfl [(false, 0), (false, 1), (false, 2), (false, 3), (false, 4), (false, 5), (false, 6), (false, 7), (false, 8), (false, 9), (false, 10), (false, 11), (false, 12), (false, 13), (false, 14), (false, 15), (false, 16), (false, 17), (false, 18), (false, 19), (false, 20), (false, 21), (false, 22), (false, 23), (true, 0), (true, 1), (true, 2), (true, 3), (true, 4), (true, 5), (true, 6), (true, 7), (true, 8), (true, 9)] rfl rfl
      replace hS := hS1
      show lwG p l e s m below meth c b H1 locs1 1445 ls [.int (-1), .int (-1)]
      refine lw_cmpi C (tgt := 1627) dL_law_1445 (by decide) ?_
      exact hK cnt wX wY wP wl sR sC sS sE k1 k2 k3 k4 k5 st tc tz tr mw ml mp mq mX mY ms mst mr mc mo mu ⟨hW, hSt, hT, hO⟩ _ _ hP hS
  · rcases lw_in (xs (i + 2)) with ho1 | ⟨u, hu, eu⟩
    · have e2 := op_join_o2 ht ho1 mr mc (xs (i + 3))
      rw [et]
      refine kV C0 (ctX6_join_io l (D := D) (cI := cI) (cT := cT) (xo := A 0) (wo := A 1) (x_tablets_a := A 11) (so := A 5) (x_steps_a := A 10) (to := A (12 + 3 * t)) (x_refs := R) (x_stepCount := cnt) (res := -1) (vp_in_nI ht (by decide)) (by rw [nI_clamp (by omega)]; exact hRr t ht) (lw_nin ho1) rfl) gL_law_X6_join rfl kdvX6_join ⟨rfl, rfl⟩ ⟨by decide, by decide⟩ kW_blind (va_recv hKn hP (ci := 3) (q0 := 0) rfl rfl) (kW_use hKn (hP.sub [0, 11] rfl) kL_no) rfl hl [] rfl (Nat.le_of_ble_eq_true rfl) dL_law_1423 lw_rm ?_
      refine lv_aload_n hx hb dL_law_1426 rfl (lv_at hl 2 rfl) ?_
      refine lw_ldi C hi hl hS 1 (by decide) (by decide) dL_law_1427 dL_law_1428 dL_law_1429 dL_law_1430 dL_law_1431 ?_
      refine lw_ldi C hi hl hS 2 (by decide) (by decide) dL_law_1432 dL_law_1433 dL_law_1434 dL_law_1435 dL_law_1436 ?_
      refine lw_ldi C hi hl hS 3 (by decide) (by decide) dL_law_1437 dL_law_1438 dL_law_1439 dL_law_1440 dL_law_1441 ?_
      rw [et]
      refine kVx C0 (ctX7_join l (D := D) (cI := cI) (cT := cT) (mo := A 24) (m_product_a := A 25) (m_place_a := A 26) (m_ofX_a := A 27) (m_ofY_a := A 28) (m_step_a := A 29) (m_rows_a := A 30) (m_cell_a := A 31) (m_overs_a := A 32) (m_sure_a := A 33) (m_isWorked := mw) (m_lines := ml) (m_product := mp) (m_place := mq) (m_ofX := mX) (m_ofY := mY) (m_steps := ms) (m_step := mst) (m_rows := mr) (m_cell := mc) (m_overs := mo) (m_sure := mu) (nd_sub hnd [24, 25, 26, 27, 28, 29, 30, 31, 32, 33] (by decide) rfl) e2) gL_law_X7_join rfl kdvX7_join ⟨rfl, rfl⟩ ⟨by decide, by decide⟩ kW_blind (va_recv hKn hP (ci := 4) (q0 := 24) rfl rfl) (kW_use hKn (hP.sub [24, 25, 26, 27, 28, 29, 30, 31, 32, 33] rfl) kL_no) rfl hl [.int (-1)] rfl (Nat.le_of_ble_eq_true rfl) dL_law_1442 lw_rm hS (fun q h => hAd q (mem_sub [24, 25, 26, 27, 28, 29, 30, 31, 32, 33] rfl q h)) (fun H1 locs1 hP1 hk1 hS1 => ?_)
      replace hP : va_P D vwCl (lwW cI cT A R cnt wX wY wP wl sR sC sS sE k1 k2 k3 k4 k5 st tc tz tr mw ml mp mq mX mY ms mst mr mc mo mu) H1 := kjoin hnd rfl hP hP1 hk1 [24, 25, 26, 27, 28, 29, 30, 31, 32, 33] rfl [(false, 0), (false, 1), (false, 2), (false, 3), (false, 4), (false, 5), (false, 6), (false, 7), (false, 8), (false, 9), (false, 10), (false, 11), (false, 12), (false, 13), (false, 14), (false, 15), (false, 16), (false, 17), (false, 18), (false, 19), (false, 20), (false, 21), (false, 22), (false, 23), (true, 0), (true, 1), (true, 2), (true, 3), (true, 4), (true, 5), (true, 6), (true, 7), (true, 8), (true, 9)] rfl rfl
      replace hS := hS1
      show lwG p l e s m below meth c b H1 locs1 1445 ls [.int (-1), .int (-1)]
      refine lw_cmpi C (tgt := 1627) dL_law_1445 (by decide) ?_
      exact hK cnt wX wY wP wl sR sC sS sE k1 k2 k3 k4 k5 st tc tz tr mw ml mp mq mX mY ms mst mr mc mo mu ⟨hW, hSt, hT, hO⟩ _ _ hP hS
    · by_cases htu : t = u
      · subst htu
        have e2 := op_join_e ht mr mc (xs (i + 3))
        rw [et, eu]
        refine kV C0 (ctX6_join_e l (D := D) (cI := cI) (cT := cT) (xo := A 0) (wo := A 1) (x_tablets_a := A 11) (so := A 5) (x_steps_a := A 10) (to := A (12 + 3 * t)) (x_refs := R) (x_stepCount := cnt) (res := -1) (vp_in_nI ht (by decide)) (by rw [nI_clamp (by omega)]; exact hRr t ht) (vp_in_nI ht (by decide)) (by rw [nI_clamp (by omega)]; exact hRr t ht) rfl rfl) gL_law_X6_join rfl kdvX6_join ⟨rfl, rfl⟩ ⟨by decide, by decide⟩ kW_blind (va_recv hKn hP (ci := 3) (q0 := 0) rfl rfl) (kW_use hKn (hP.sub [0, 11] rfl) kL_no) rfl hl [] rfl (Nat.le_of_ble_eq_true rfl) dL_law_1423 lw_rm ?_
        refine lv_aload_n hx hb dL_law_1426 rfl (lv_at hl 2 rfl) ?_
        refine lw_ldi C hi hl hS 1 (by decide) (by decide) dL_law_1427 dL_law_1428 dL_law_1429 dL_law_1430 dL_law_1431 ?_
        refine lw_ldi C hi hl hS 2 (by decide) (by decide) dL_law_1432 dL_law_1433 dL_law_1434 dL_law_1435 dL_law_1436 ?_
        refine lw_ldi C hi hl hS 3 (by decide) (by decide) dL_law_1437 dL_law_1438 dL_law_1439 dL_law_1440 dL_law_1441 ?_
        rw [et, eu]
        refine kVx C0 (ctX7_join l (D := D) (cI := cI) (cT := cT) (mo := A 24) (m_product_a := A 25) (m_place_a := A 26) (m_ofX_a := A 27) (m_ofY_a := A 28) (m_step_a := A 29) (m_rows_a := A 30) (m_cell_a := A 31) (m_overs_a := A 32) (m_sure_a := A 33) (m_isWorked := mw) (m_lines := ml) (m_product := mp) (m_place := mq) (m_ofX := mX) (m_ofY := mY) (m_steps := ms) (m_step := mst) (m_rows := mr) (m_cell := mc) (m_overs := mo) (m_sure := mu) (nd_sub hnd [24, 25, 26, 27, 28, 29, 30, 31, 32, 33] (by decide) rfl) e2) gL_law_X7_join rfl kdvX7_join ⟨rfl, rfl⟩ ⟨by decide, by decide⟩ kW_blind (va_recv hKn hP (ci := 4) (q0 := 24) rfl rfl) (kW_use hKn (hP.sub [24, 25, 26, 27, 28, 29, 30, 31, 32, 33] rfl) kL_no) rfl hl [.int (-1)] rfl (Nat.le_of_ble_eq_true rfl) dL_law_1442 lw_rm hS (fun q h => hAd q (mem_sub [24, 25, 26, 27, 28, 29, 30, 31, 32, 33] rfl q h)) (fun H1 locs1 hP1 hk1 hS1 => ?_)
        replace hP : va_P D vwCl (lwW cI cT A R cnt wX wY wP wl sR sC sS sE k1 k2 k3 k4 k5 st tc tz tr mw ml mp mq mX mY ms mst mr mc mo mu) H1 := kjoin hnd rfl hP hP1 hk1 [24, 25, 26, 27, 28, 29, 30, 31, 32, 33] rfl [(false, 0), (false, 1), (false, 2), (false, 3), (false, 4), (false, 5), (false, 6), (false, 7), (false, 8), (false, 9), (false, 10), (false, 11), (false, 12), (false, 13), (false, 14), (false, 15), (false, 16), (false, 17), (false, 18), (false, 19), (false, 20), (false, 21), (false, 22), (false, 23), (true, 0), (true, 1), (true, 2), (true, 3), (true, 4), (true, 5), (true, 6), (true, 7), (true, 8), (true, 9)] rfl rfl
        replace hS := hS1
        show lwG p l e s m below meth c b H1 locs1 1445 ls [.int (-1), .int (-1)]
        refine lw_cmpi C (tgt := 1627) dL_law_1445 (by decide) ?_
        exact hK cnt wX wY wP wl sR sC sS sE k1 k2 k3 k4 k5 st tc tz tr mw ml mp mq mX mY ms mst mr mc mo mu ⟨hW, hSt, hT, hO⟩ _ _ hP hS
      · obtain ⟨r, c', z', r', mr', mc', e1, e2, g1, g2, g3⟩ := op_join ht hu htu (hT t ht) (hT u hu) (xs (i + 3))
        rw [et, eu]
        refine cx_join C hi hl hP hS ht hu htu e1 (fun H1 locs1 hP1 hS1 => ?_)
        replace hP := hP1
        replace hS := hS1
        refine lv_aload_n hx hb dL_law_1426 rfl (lv_at hl 2 rfl) ?_
        refine lw_ldi C hi hl hS 1 (by decide) (by decide) dL_law_1427 dL_law_1428 dL_law_1429 dL_law_1430 dL_law_1431 ?_
        refine lw_ldi C hi hl hS 2 (by decide) (by decide) dL_law_1432 dL_law_1433 dL_law_1434 dL_law_1435 dL_law_1436 ?_
        refine lw_ldi C hi hl hS 3 (by decide) (by decide) dL_law_1437 dL_law_1438 dL_law_1439 dL_law_1440 dL_law_1441 ?_
        rw [et, eu]
        refine kVx C0 (ctX7_join l (D := D) (cI := cI) (cT := cT) (mo := A 24) (m_product_a := A 25) (m_place_a := A 26) (m_ofX_a := A 27) (m_ofY_a := A 28) (m_step_a := A 29) (m_rows_a := A 30) (m_cell_a := A 31) (m_overs_a := A 32) (m_sure_a := A 33) (m_isWorked := mw) (m_lines := ml) (m_product := mp) (m_place := mq) (m_ofX := mX) (m_ofY := mY) (m_steps := ms) (m_step := mst) (m_rows := mr) (m_cell := mc) (m_overs := mo) (m_sure := mu) (nd_sub hnd [24, 25, 26, 27, 28, 29, 30, 31, 32, 33] (by decide) rfl) e2) gL_law_X7_join rfl kdvX7_join ⟨rfl, rfl⟩ ⟨by decide, by decide⟩ kW_blind (va_recv hKn hP (ci := 4) (q0 := 24) rfl rfl) (kW_use hKn (hP.sub [24, 25, 26, 27, 28, 29, 30, 31, 32, 33] rfl) kL_no) rfl hl [.int r] rfl (Nat.le_of_ble_eq_true rfl) dL_law_1442 lw_rm hS (fun q h => hAd q (mem_sub [24, 25, 26, 27, 28, 29, 30, 31, 32, 33] rfl q h)) (fun H1 locs1 hP1 hk1 hS1 => ?_)
        replace hP : va_P D vwCl (lwW cI cT A R cnt wX wY wP wl sR sC sS sE k1 k2 k3 k4 k5 st (updF tc t c') (updF tz t z') (updF tr t r') mw ml mp mq mX mY ms mst mr' mc' mo mu) H1 := kjoin hnd rfl hP hP1 hk1 [24, 25, 26, 27, 28, 29, 30, 31, 32, 33] rfl [(false, 0), (false, 1), (false, 2), (false, 3), (false, 4), (false, 5), (false, 6), (false, 7), (false, 8), (false, 9), (false, 10), (false, 11), (false, 12), (false, 13), (false, 14), (false, 15), (false, 16), (false, 17), (false, 18), (false, 19), (false, 20), (false, 21), (false, 22), (false, 23), (true, 0), (true, 1), (true, 2), (true, 3), (true, 4), (true, 5), (true, 6), (true, 7), (true, 8), (true, 9)] rfl rfl
        replace hS := hS1
        show lwG p l e s m below meth c b H1 locs1 1445 ls [.int r, .int r]
        refine lw_cmpi C (tgt := 1627) dL_law_1445 (by decide) ?_
        exact hK cnt wX wY wP wl sR sC sS sE k1 k2 k3 k4 k5 st (updF tc t c') (updF tz t z') (updF tr t r') mw ml mp mq mX mY ms mst mr' mc' mo mu ⟨hW, hSt, lw_tab g1 g2 g3 hT, hO⟩ _ _ hP hS
set_option maxHeartbeats 4000000 in
set_option maxRecDepth 100000 in
/-- case 25: problem -/
theorem lw_c25 (C : lwC p s m meth c b L xs D cI cT A R aL) (hi : i + 6 ≤ L) (hl : lv_has ls 4 (lwL b A i)) (hI : lwI cnt wX wY wP wl sR sC sS sE k1 k2 k3 k4 k5 st tc tz tr mw ml mp mq mX mY ms mst mr mc mo mu) (hP : va_P D vwCl (lwW cI cT A R cnt wX wY wP wl sR sC sS sE k1 k2 k3 k4 k5 st tc tz tr mw ml mp mq mX mY ms mst mr mc mo mu) H) (hS : lwS s H locs) (hK : lwK p l e s m below meth c b D cI cT A R ls) : lwG p l e s m below meth c b H locs 1450 ls [] := by
  have C9 := C
  obtain ⟨C0, hX, hbl, hKn, hnd, hAd, hRr, hLz, hL⟩ := C9
  have C8 := C0
  obtain ⟨hx, hb, -⟩ := C8
  obtain ⟨hW, hSt, hT, hO⟩ := hI
  obtain ⟨r, e1, e2⟩ := op_problem (xs (i + 1)) (xs (i + 2)) (xs (i + 3)) (xs (i + 4))
  refine lv_aload_n hx hb dL_law_1450 rfl (lv_at hl 1 rfl) ?_
  refine lw_ldi C hi hl hS 1 (by decide) (by decide) dL_law_1451 dL_law_1452 dL_law_1453 dL_law_1454 dL_law_1455 ?_
  refine lw_ldi C hi hl hS 2 (by decide) (by decide) dL_law_1456 dL_law_1457 dL_law_1458 dL_law_1459 dL_law_1460 ?_
  refine lw_ldi C hi hl hS 3 (by decide) (by decide) dL_law_1461 dL_law_1462 dL_law_1463 dL_law_1464 dL_law_1465 ?_
  refine lw_ldi C hi hl hS 4 (by decide) (by decide) dL_law_1466 dL_law_1467 dL_law_1468 dL_law_1469 dL_law_1470 ?_
  refine kV C0 (ctX6_problem l (xo := A 0) e1) gL_law_X6_problem rfl kdvX6_problem ⟨rfl, rfl⟩ ⟨by decide, by decide⟩ kT_blind (va_recv hKn hP (ci := 3) (q0 := 0) rfl rfl) (fun _ _ _ => trivial) rfl hl [] rfl (Nat.le_of_ble_eq_true rfl) dL_law_1471 lw_rm ?_
  refine lv_aload_n hx hb dL_law_1474 rfl (lv_at hl 2 rfl) ?_
  refine lw_ldi C hi hl hS 1 (by decide) (by decide) dL_law_1475 dL_law_1476 dL_law_1477 dL_law_1478 dL_law_1479 ?_
  refine lw_ldi C hi hl hS 2 (by decide) (by decide) dL_law_1480 dL_law_1481 dL_law_1482 dL_law_1483 dL_law_1484 ?_
  refine lw_ldi C hi hl hS 3 (by decide) (by decide) dL_law_1485 dL_law_1486 dL_law_1487 dL_law_1488 dL_law_1489 ?_
  refine lw_ldi C hi hl hS 4 (by decide) (by decide) dL_law_1490 dL_law_1491 dL_law_1492 dL_law_1493 dL_law_1494 ?_
  refine kV C0 (ctX7_problem l (mo := A 24) e2) gL_law_X7_problem rfl kdvX7_problem ⟨rfl, rfl⟩ ⟨by decide, by decide⟩ kT_blind (va_recv hKn hP (ci := 4) (q0 := 24) rfl rfl) (fun _ _ _ => trivial) rfl hl [.long r] rfl (Nat.le_of_ble_eq_true rfl) dL_law_1495 lw_rm ?_
  refine lw_cmpl C (tgt := 1627) dL_law_1498 dL_law_1499 (by decide) ?_
  exact hK cnt wX wY wP wl sR sC sS sE k1 k2 k3 k4 k5 st tc tz tr mw ml mp mq mX mY ms mst mr mc mo mu ⟨hW, hSt, hT, hO⟩ _ _ hP hS
set_option maxHeartbeats 4000000 in
set_option maxRecDepth 100000 in
/-- case 26: unit -/
theorem lw_c26 (C : lwC p s m meth c b L xs D cI cT A R aL) (hi : i + 6 ≤ L) (hl : lv_has ls 4 (lwL b A i)) (hI : lwI cnt wX wY wP wl sR sC sS sE k1 k2 k3 k4 k5 st tc tz tr mw ml mp mq mX mY ms mst mr mc mo mu) (hP : va_P D vwCl (lwW cI cT A R cnt wX wY wP wl sR sC sS sE k1 k2 k3 k4 k5 st tc tz tr mw ml mp mq mX mY ms mst mr mc mo mu) H) (hS : lwS s H locs) (hK : lwK p l e s m below meth c b D cI cT A R ls) : lwG p l e s m below meth c b H locs 1504 ls [] := by
  have C9 := C
  obtain ⟨C0, hX, hbl, hKn, hnd, hAd, hRr, hLz, hL⟩ := C9
  have C8 := C0
  obtain ⟨hx, hb, -⟩ := C8
  obtain ⟨hW, hSt, hT, hO⟩ := hI
  obtain ⟨r, a1, a2, b1, b2, e1, e2, g⟩ := op_unit hSt (xs (i + 1))
  refine lv_aload_n hx hb dL_law_1504 rfl (lv_at hl 1 rfl) ?_
  refine lw_ldi C hi hl hS 1 (by decide) (by decide) dL_law_1505 dL_law_1506 dL_law_1507 dL_law_1508 dL_law_1509 ?_
  refine kVx C0 (ctX6_unit l (D := D) (cI := cI) (cT := cT) (xo := A 0) (wo := A 1) (x_tablets_a := A 11) (so := A 5) (x_steps_a := A 10) (x_steps := st) (x_stepCount := cnt) (nd_sub hnd [0, 10] (by decide) rfl) e1) gL_law_X6_unit rfl kdvX6_unit ⟨rfl, rfl⟩ ⟨by decide, by decide⟩ kW_blind (va_recv hKn hP (ci := 3) (q0 := 0) rfl rfl) (kW_use hKn (hP.sub [0, 10] rfl) kL_no) rfl hl [] rfl (Nat.le_of_ble_eq_true rfl) dL_law_1510 lw_rm hS (fun q h => hAd q (mem_sub [0, 10] rfl q h)) (fun H1 locs1 hP1 hk1 hS1 => ?_)
  replace hP : va_P D vwCl (lwW cI cT A R a2 wX wY wP wl sR sC sS sE k1 k2 k3 k4 k5 a1 tc tz tr mw ml mp mq mX mY ms mst mr mc mo mu) H1 := kjoin hnd rfl hP hP1 hk1 [0, 10] rfl [(true, 0), (false, 1), (false, 2), (false, 3), (false, 4), (false, 5), (false, 6), (false, 7), (false, 8), (false, 9), (true, 1), (false, 11), (false, 12), (false, 13), (false, 14), (false, 15), (false, 16), (false, 17), (false, 18), (false, 19), (false, 20), (false, 21), (false, 22), (false, 23), (false, 24), (false, 25), (false, 26), (false, 27), (false, 28), (false, 29), (false, 30), (false, 31), (false, 32), (false, 33)] rfl rfl
  replace hS := hS1
  show lwG p l e s m below meth c b H1 locs1 1513 ls [.int r]
  refine lv_aload_n hx hb dL_law_1513 rfl (lv_at hl 2 rfl) ?_
  refine lw_ldi C hi hl hS 1 (by decide) (by decide) dL_law_1514 dL_law_1515 dL_law_1516 dL_law_1517 dL_law_1518 ?_
  refine kVx C0 (ctX7_unit l (D := D) (cI := cI) (cT := cT) (mo := A 24) (m_product_a := A 25) (m_place_a := A 26) (m_ofX_a := A 27) (m_ofY_a := A 28) (m_step_a := A 29) (m_rows_a := A 30) (m_cell_a := A 31) (m_overs_a := A 32) (m_sure_a := A 33) (m_isWorked := mw) (m_lines := ml) (m_product := mp) (m_place := mq) (m_ofX := mX) (m_ofY := mY) (m_steps := ms) (m_step := mst) (m_rows := mr) (m_cell := mc) (m_overs := mo) (m_sure := mu) (nd_sub hnd [24, 25, 26, 27, 28, 29, 30, 31, 32, 33] (by decide) rfl) e2) gL_law_X7_unit rfl kdvX7_unit ⟨rfl, rfl⟩ ⟨by decide, by decide⟩ kW_blind (va_recv hKn hP (ci := 4) (q0 := 24) rfl rfl) (kW_use hKn (hP.sub [24, 25, 26, 27, 28, 29, 30, 31, 32, 33] rfl) kL_no) rfl hl [.int r] rfl (Nat.le_of_ble_eq_true rfl) dL_law_1519 lw_rm hS (fun q h => hAd q (mem_sub [24, 25, 26, 27, 28, 29, 30, 31, 32, 33] rfl q h)) (fun H1 locs1 hP1 hk1 hS1 => ?_)
  replace hP : va_P D vwCl (lwW cI cT A R a2 wX wY wP wl sR sC sS sE k1 k2 k3 k4 k5 a1 tc tz tr mw ml mp mq mX mY b1 b2 mr mc mo mu) H1 := kjoin hnd rfl hP hP1 hk1 [24, 25, 26, 27, 28, 29, 30, 31, 32, 33] rfl [(false, 0), (false, 1), (false, 2), (false, 3), (false, 4), (false, 5), (false, 6), (false, 7), (false, 8), (false, 9), (false, 10), (false, 11), (false, 12), (false, 13), (false, 14), (false, 15), (false, 16), (false, 17), (false, 18), (false, 19), (false, 20), (false, 21), (false, 22), (false, 23), (true, 0), (true, 1), (true, 2), (true, 3), (true, 4), (true, 5), (true, 6), (true, 7), (true, 8), (true, 9)] rfl rfl
  replace hS := hS1
  show lwG p l e s m below meth c b H1 locs1 1522 ls [.int r, .int r]
  refine lw_cmpi C (tgt := 1627) dL_law_1522 (by decide) ?_
  exact hK a2 wX wY wP wl sR sC sS sE k1 k2 k3 k4 k5 a1 tc tz tr mw ml mp mq mX mY b1 b2 mr mc mo mu ⟨hW, g, hT, hO⟩ _ _ hP hS
set_option maxHeartbeats 4000000 in
set_option maxRecDepth 100000 in
/-- case 27: wipe -/
theorem lw_c27 (C : lwC p s m meth c b L xs D cI cT A R aL) (hi : i + 6 ≤ L) (hl : lv_has ls 4 (lwL b A i)) (hI : lwI cnt wX wY wP wl sR sC sS sE k1 k2 k3 k4 k5 st tc tz tr mw ml mp mq mX mY ms mst mr mc mo mu) (hP : va_P D vwCl (lwW cI cT A R cnt wX wY wP wl sR sC sS sE k1 k2 k3 k4 k5 st tc tz tr mw ml mp mq mX mY ms mst mr mc mo mu) H) (hS : lwS s H locs) (hK : lwK p l e s m below meth c b D cI cT A R ls) : lwG p l e s m below meth c b H locs 1527 ls [] := by
  have C9 := C
  obtain ⟨C0, hX, hbl, hKn, hnd, hAd, hRr, hLz, hL⟩ := C9
  have C8 := C0
  obtain ⟨hx, hb, -⟩ := C8
  obtain ⟨hW, hSt, hT, hO⟩ := hI
  obtain ⟨r, a1, b1, e1, e2, g⟩ := op_wipe hSt
  refine lv_aload_n hx hb dL_law_1527 rfl (lv_at hl 1 rfl) ?_
  refine kVx C0 (ctX6_wipe l (D := D) (cI := cI) (cT := cT) (xo := A 0) (wo := A 1) (x_tablets_a := A 11) (so := A 5) (x_steps_a := A 10) (x_steps := st) (x_stepCount := cnt) (nd_sub hnd [0, 10] (by decide) rfl) e1) gL_law_X6_wipe rfl kdvX6_wipe ⟨rfl, rfl⟩ ⟨by decide, by decide⟩ kW_blind (va_recv hKn hP (ci := 3) (q0 := 0) rfl rfl) (kW_use hKn (hP.sub [0, 10] rfl) kL_no) rfl hl [] rfl (Nat.le_of_ble_eq_true rfl) dL_law_1528 lw_rm hS (fun q h => hAd q (mem_sub [0, 10] rfl q h)) (fun H1 locs1 hP1 hk1 hS1 => ?_)
  replace hP : va_P D vwCl (lwW cI cT A R a1 wX wY wP wl sR sC sS sE k1 k2 k3 k4 k5 st tc tz tr mw ml mp mq mX mY ms mst mr mc mo mu) H1 := kjoin hnd rfl hP hP1 hk1 [0, 10] rfl [(true, 0), (false, 1), (false, 2), (false, 3), (false, 4), (false, 5), (false, 6), (false, 7), (false, 8), (false, 9), (true, 1), (false, 11), (false, 12), (false, 13), (false, 14), (false, 15), (false, 16), (false, 17), (false, 18), (false, 19), (false, 20), (false, 21), (false, 22), (false, 23), (false, 24), (false, 25), (false, 26), (false, 27), (false, 28), (false, 29), (false, 30), (false, 31), (false, 32), (false, 33)] rfl rfl
  replace hS := hS1
  show lwG p l e s m below meth c b H1 locs1 1531 ls [.int r]
  refine lv_aload_n hx hb dL_law_1531 rfl (lv_at hl 2 rfl) ?_
  refine kVx C0 (ctX7_wipe l (D := D) (cI := cI) (cT := cT) (mo := A 24) (m_product_a := A 25) (m_place_a := A 26) (m_ofX_a := A 27) (m_ofY_a := A 28) (m_step_a := A 29) (m_rows_a := A 30) (m_cell_a := A 31) (m_overs_a := A 32) (m_sure_a := A 33) (m_isWorked := mw) (m_lines := ml) (m_product := mp) (m_place := mq) (m_ofX := mX) (m_ofY := mY) (m_steps := ms) (m_step := mst) (m_rows := mr) (m_cell := mc) (m_overs := mo) (m_sure := mu) (nd_sub hnd [24, 25, 26, 27, 28, 29, 30, 31, 32, 33] (by decide) rfl) e2) gL_law_X7_wipe rfl kdvX7_wipe ⟨rfl, rfl⟩ ⟨by decide, by decide⟩ kW_blind (va_recv hKn hP (ci := 4) (q0 := 24) rfl rfl) (kW_use hKn (hP.sub [24, 25, 26, 27, 28, 29, 30, 31, 32, 33] rfl) kL_no) rfl hl [.int r] rfl (Nat.le_of_ble_eq_true rfl) dL_law_1532 lw_rm hS (fun q h => hAd q (mem_sub [24, 25, 26, 27, 28, 29, 30, 31, 32, 33] rfl q h)) (fun H1 locs1 hP1 hk1 hS1 => ?_)
  replace hP : va_P D vwCl (lwW cI cT A R a1 wX wY wP wl sR sC sS sE k1 k2 k3 k4 k5 st tc tz tr mw ml mp mq mX mY b1 mst mr mc mo mu) H1 := kjoin hnd rfl hP hP1 hk1 [24, 25, 26, 27, 28, 29, 30, 31, 32, 33] rfl [(false, 0), (false, 1), (false, 2), (false, 3), (false, 4), (false, 5), (false, 6), (false, 7), (false, 8), (false, 9), (false, 10), (false, 11), (false, 12), (false, 13), (false, 14), (false, 15), (false, 16), (false, 17), (false, 18), (false, 19), (false, 20), (false, 21), (false, 22), (false, 23), (true, 0), (true, 1), (true, 2), (true, 3), (true, 4), (true, 5), (true, 6), (true, 7), (true, 8), (true, 9)] rfl rfl
  replace hS := hS1
  show lwG p l e s m below meth c b H1 locs1 1535 ls [.int r, .int r]
  refine lw_cmpi C (tgt := 1627) dL_law_1535 (by decide) ?_
  exact hK a1 wX wY wP wl sR sC sS sE k1 k2 k3 k4 k5 st tc tz tr mw ml mp mq mX mY b1 mst mr mc mo mu ⟨hW, g, hT, hO⟩ _ _ hP hS
set_option maxHeartbeats 4000000 in
set_option maxRecDepth 100000 in
/-- case 28: units -/
theorem lw_c28 (C : lwC p s m meth c b L xs D cI cT A R aL) (hi : i + 6 ≤ L) (hl : lv_has ls 4 (lwL b A i)) (hI : lwI cnt wX wY wP wl sR sC sS sE k1 k2 k3 k4 k5 st tc tz tr mw ml mp mq mX mY ms mst mr mc mo mu) (hP : va_P D vwCl (lwW cI cT A R cnt wX wY wP wl sR sC sS sE k1 k2 k3 k4 k5 st tc tz tr mw ml mp mq mX mY ms mst mr mc mo mu) H) (hS : lwS s H locs) (hK : lwK p l e s m below meth c b D cI cT A R ls) : lwG p l e s m below meth c b H locs 1540 ls [] := by
  have C9 := C
  obtain ⟨C0, hX, hbl, hKn, hnd, hAd, hRr, hLz, hL⟩ := C9
  have C8 := C0
  obtain ⟨hx, hb, -⟩ := C8
  obtain ⟨hW, hSt, hT, hO⟩ := hI
  obtain ⟨r, e1, e2⟩ := op_units hSt (L64 (xs (i + 1)) (xs (i + (1 + 1)))) (xs (i + 3))
  refine lv_aload_n hx hb dL_law_1540 rfl (lv_at hl 1 rfl) ?_
  refine lw_ldl C hi hl hS 1 (by decide) (by decide) (by decide) dL_law_1541 dL_law_1542 dL_law_1543 dL_law_1544 dL_law_1545 dL_law_1546 dL_law_1547 dL_law_1549 dL_law_1550 dL_law_1551 dL_law_1552 dL_law_1553 dL_law_1554 dL_law_1555 dL_law_1556 dL_law_1559 dL_law_1560 ?_
  refine lw_ldi C hi hl hS 3 (by decide) (by decide) dL_law_1561 dL_law_1562 dL_law_1563 dL_law_1564 dL_law_1565 ?_
  refine kV C0 (ctX6_units l (D := D) (cI := cI) (cT := cT) (xo := A 0) (wo := A 1) (x_tablets_a := A 11) (so := A 5) (x_steps_a := A 10) (x_steps := st) (x_stepCount := cnt) e1) gL_law_X6_units rfl kdvX6_units ⟨rfl, rfl⟩ ⟨by decide, by decide⟩ kW_blind (va_recv hKn hP (ci := 3) (q0 := 0) rfl rfl) (kW_use hKn (hP.sub [0, 10] rfl) kL_no) rfl hl [] rfl (Nat.le_of_ble_eq_true rfl) dL_law_1566 lw_rm ?_
  refine lv_aload_n hx hb dL_law_1569 rfl (lv_at hl 2 rfl) ?_
  refine lw_ldl C hi hl hS 1 (by decide) (by decide) (by decide) dL_law_1570 dL_law_1571 dL_law_1572 dL_law_1573 dL_law_1574 dL_law_1575 dL_law_1576 dL_law_1578 dL_law_1579 dL_law_1580 dL_law_1581 dL_law_1582 dL_law_1583 dL_law_1584 dL_law_1585 dL_law_1588 dL_law_1589 ?_
  refine lw_ldi C hi hl hS 3 (by decide) (by decide) dL_law_1590 dL_law_1591 dL_law_1592 dL_law_1593 dL_law_1594 ?_
  refine kV C0 (ctX7_units l (D := D) (cI := cI) (cT := cT) (mo := A 24) (m_product_a := A 25) (m_place_a := A 26) (m_ofX_a := A 27) (m_ofY_a := A 28) (m_step_a := A 29) (m_rows_a := A 30) (m_cell_a := A 31) (m_overs_a := A 32) (m_sure_a := A 33) (m_isWorked := mw) (m_lines := ml) (m_product := mp) (m_place := mq) (m_ofX := mX) (m_ofY := mY) (m_steps := ms) (m_step := mst) (m_rows := mr) (m_cell := mc) (m_overs := mo) (m_sure := mu) e2) gL_law_X7_units rfl kdvX7_units ⟨rfl, rfl⟩ ⟨by decide, by decide⟩ kW_blind (va_recv hKn hP (ci := 4) (q0 := 24) rfl rfl) (kW_use hKn (hP.sub [24, 25, 26, 27, 28, 29, 30, 31, 32, 33] rfl) kL_no) rfl hl [.long r] rfl (Nat.le_of_ble_eq_true rfl) dL_law_1595 lw_rm ?_
  refine lw_cmpl C (tgt := 1627) dL_law_1598 dL_law_1599 (by decide) ?_
  exact hK cnt wX wY wP wl sR sC sS sE k1 k2 k3 k4 k5 st tc tz tr mw ml mp mq mX mY ms mst mr mc mo mu ⟨hW, hSt, hT, hO⟩ _ _ hP hS
set_option maxHeartbeats 4000000 in
set_option maxRecDepth 100000 in
/-- case 29: told -/
theorem lw_c29 (C : lwC p s m meth c b L xs D cI cT A R aL) (hi : i + 6 ≤ L) (hl : lv_has ls 4 (lwL b A i)) (hI : lwI cnt wX wY wP wl sR sC sS sE k1 k2 k3 k4 k5 st tc tz tr mw ml mp mq mX mY ms mst mr mc mo mu) (hP : va_P D vwCl (lwW cI cT A R cnt wX wY wP wl sR sC sS sE k1 k2 k3 k4 k5 st tc tz tr mw ml mp mq mX mY ms mst mr mc mo mu) H) (hS : lwS s H locs) (hK : lwK p l e s m below meth c b D cI cT A R ls) : lwG p l e s m below meth c b H locs 1604 ls [] := by
  have C9 := C
  obtain ⟨C0, hX, hbl, hKn, hnd, hAd, hRr, hLz, hL⟩ := C9
  have C8 := C0
  obtain ⟨hx, hb, -⟩ := C8
  obtain ⟨hW, hSt, hT, hO⟩ := hI
  refine lv_aload_n hx hb dL_law_1604 rfl (lv_at hl 1 rfl) ?_
  refine lw_ldi C hi hl hS 1 (by decide) (by decide) dL_law_1605 dL_law_1606 dL_law_1607 dL_law_1608 dL_law_1609 ?_
  rcases lw_toldx (xs (i + 1)) with ho | ⟨n, n1, n2, et⟩
  · have hwl : wl = ml := by obtain ⟨k, -, a, b, -⟩ := hW; rw [a, b]
    have hct : cnt = ms := by obtain ⟨k, -, a, b, -⟩ := hSt; rw [a, b]
    obtain ⟨r, e1, e2⟩ := op_told_n hwl hct mr mc ho
    refine kV C0 (ctX6_told_n l (D := D) (cI := cI) (cT := cT) (xo := A 0) (wo := A 1) (x_tablets_a := A 11) (so := A 5) (x_steps_a := A 10) (w_ofX_a := A 2) (w_ofY_a := A 3) (w_places_a := A 4) (x_stepCount := cnt) (w_ofX := wX) (w_ofY := wY) (w_places := wP) (w_lines := wl) e1) gL_law_X6_told rfl kdvX6_told ⟨rfl, rfl⟩ ⟨by decide, by decide⟩ kW_blind (va_recv hKn hP (ci := 3) (q0 := 0) rfl rfl) (kW_use hKn (hP.sub [0, 1, 2, 3, 4] rfl) kL_no) rfl hl [] rfl (Nat.le_of_ble_eq_true rfl) dL_law_1610 lw_rm ?_
    refine lv_aload_n hx hb dL_law_1613 rfl (lv_at hl 2 rfl) ?_
    refine lw_ldi C hi hl hS 1 (by decide) (by decide) dL_law_1614 dL_law_1615 dL_law_1616 dL_law_1617 dL_law_1618 ?_
    refine kV C0 (ctX7_told l (D := D) (cI := cI) (cT := cT) (mo := A 24) (m_product_a := A 25) (m_place_a := A 26) (m_ofX_a := A 27) (m_ofY_a := A 28) (m_step_a := A 29) (m_rows_a := A 30) (m_cell_a := A 31) (m_overs_a := A 32) (m_sure_a := A 33) (m_isWorked := mw) (m_lines := ml) (m_product := mp) (m_place := mq) (m_ofX := mX) (m_ofY := mY) (m_steps := ms) (m_step := mst) (m_rows := mr) (m_cell := mc) (m_overs := mo) (m_sure := mu) e2) gL_law_X7_told rfl kdvX7_told ⟨rfl, rfl⟩ ⟨by decide, by decide⟩ kW_blind (va_recv hKn hP (ci := 4) (q0 := 24) rfl rfl) (kW_use hKn (hP.sub [24, 25, 26, 27, 28, 29, 30, 31, 32, 33] rfl) kL_no) rfl hl [.int r] rfl (Nat.le_of_ble_eq_true rfl) dL_law_1619 lw_rm ?_
    refine lw_cmpi C (tgt := 1627) dL_law_1622 (by decide) ?_
    exact hK cnt wX wY wP wl sR sC sS sE k1 k2 k3 k4 k5 st tc tz tr mw ml mp mq mX mY ms mst mr mc mo mu ⟨hW, hSt, hT, hO⟩ _ _ hP hS
  · obtain ⟨t, ht, hw⟩ : ∃ t, t < 4 ∧ (n = 2 + t ∨ n = 6 + t) := ⟨(n - 2) % 4, by omega, by omega⟩
    obtain ⟨r, e1, e2⟩ := op_told_t (xc := cnt) (xl := wl) (mc := ms) (ml := ml) ht (hT t ht) hw
    rw [et]
    refine cx_told C hi hl hP hS ht hw e1 ?_
    refine lv_aload_n hx hb dL_law_1613 rfl (lv_at hl 2 rfl) ?_
    refine lw_ldi C hi hl hS 1 (by decide) (by decide) dL_law_1614 dL_law_1615 dL_law_1616 dL_law_1617 dL_law_1618 ?_
    rw [et]
    refine kV C0 (ctX7_told l (D := D) (cI := cI) (cT := cT) (mo := A 24) (m_product_a := A 25) (m_place_a := A 26) (m_ofX_a := A 27) (m_ofY_a := A 28) (m_step_a := A 29) (m_rows_a := A 30) (m_cell_a := A 31) (m_overs_a := A 32) (m_sure_a := A 33) (m_isWorked := mw) (m_lines := ml) (m_product := mp) (m_place := mq) (m_ofX := mX) (m_ofY := mY) (m_steps := ms) (m_step := mst) (m_rows := mr) (m_cell := mc) (m_overs := mo) (m_sure := mu) e2) gL_law_X7_told rfl kdvX7_told ⟨rfl, rfl⟩ ⟨by decide, by decide⟩ kW_blind (va_recv hKn hP (ci := 4) (q0 := 24) rfl rfl) (kW_use hKn (hP.sub [24, 25, 26, 27, 28, 29, 30, 31, 32, 33] rfl) kL_no) rfl hl [.int r] rfl (Nat.le_of_ble_eq_true rfl) dL_law_1619 lw_rm ?_
    refine lw_cmpi C (tgt := 1627) dL_law_1622 (by decide) ?_
    exact hK cnt wX wY wP wl sR sC sS sE k1 k2 k3 k4 k5 st tc tz tr mw ml mp mq mX mY ms mst mr mc mo mu ⟨hW, hSt, hT, hO⟩ _ _ hP hS
end LAWC
