section LAWLOOP
variable {p : Program} {l : Launch} {e : Env} {s : State} {m : MethodId} {below : List Frame} {meth : Method} {c : Code} {b L : Nat} {xs : Nat → Int32} {D : va_G} {cI cT : ClassId} {A : Nat → Nat} {R : Nat → Option Nat} {aL : Nat × Nat} {i : Nat} {ls : Array Slot} {H : Heap} {locs : List Loc} {sk : List Value} {pc : Nat}
theorem lw_exit (C : lwC p s m meth c b L xs D cI cT A R aL) (hS : lwS s H locs) : lwG p l e s m below meth c b H locs 1633 ls [] := by
  obtain ⟨⟨hx, hb, hml, hown, hts, hr, hlk, -⟩, -⟩ := C
  refine lv_iconst (v := 1) hx hb dL_law_1633 (by decide) ?_
  refine va_forget (fun q hq => hS.2.2 q hq) ?_
  exact lw_ret hx hb hr hlk dL_law_1634
set_option maxHeartbeats 4000000 in
set_option maxRecDepth 100000 in
theorem lw_body (C : lwC p s m meth c b L xs D cI cT A R aL) (hi : i + 6 ≤ L) (hl : lv_has ls 4 (lwL b A i)) {cnt : Int32} {wX : Nat → Int32} {wY : Nat → Int32} {wP : Nat → Int32} {wl : Int32} {sR : Nat → Int32} {sC : Nat → Int32} {sS : Nat → Int32} {sE : Nat → Int32} {k1 : Int32} {k2 : Int32} {k3 : Int32} {k4 : Int32} {k5 : Int32} {st : Nat → Int32} {tc : Nat → Nat → Int32} {tz : Nat → Nat → Int32} {tr : Nat → Int32} {mw : Int32} {ml : Int32} {mp : Nat → Int32} {mq : Nat → Int32} {mX : Nat → Int32} {mY : Nat → Int32} {ms : Int32} {mst : Nat → Int32} {mr : Nat → Int32} {mc : Nat → Int32} {mo : Nat → Int32} {mu : Nat → Int32} (hI : lwI cnt wX wY wP wl sR sC sS sE k1 k2 k3 k4 k5 st tc tz tr mw ml mp mq mX mY ms mst mr mc mo mu) (hP : va_P D vwCl (lwW cI cT A R cnt wX wY wP wl sR sC sS sE k1 k2 k3 k4 k5 st tc tz tr mw ml mp mq mX mY ms mst mr mc mo mu) H) (hS : lwS s H locs) (hK : lwK p l e s m below meth c b D cI cT A R ls) : lwG p l e s m below meth c b H locs 27 ls [] := by
  have C9 := C
  obtain ⟨⟨hx, hb, -⟩, hX, hbl, -, -, -, -, -, hL⟩ := C9
  have hbA : ¬ (fun q : Nat => s.heap.size ≤ q) b := Nat.not_le.mpr hbl
  refine lv_aload_n hx hb dL_law_27 rfl (lv_at hl 0 rfl) ?_
  refine lv_iload_n hx hb dL_law_28 rfl (lv_at hl 3 rfl) ?_
  refine va_sld hx hb hX hbl hbA hS (vp_in_nI (by omega) (by omega)) dL_law_29 ?_
  refine lv_bipush (v := 31) hx hb dL_law_30 (by decide) ?_
  refine lv_iand hx hb dL_law_32 ?_
  obtain ⟨j, hj, ej⟩ := pk_andE (xs (nI i).toNatClampNeg) (m := 31) 5 (by decide)
  rw [ej]
  have hj : j < 32 := hj
  rcases (show j = 0 ∨ j = 1 ∨ j = 2 ∨ j = 3 ∨ j = 4 ∨ j = 5 ∨ j = 6 ∨ j = 7 ∨ j = 8 ∨ j = 9 ∨ j = 10 ∨ j = 11 ∨ j = 12 ∨ j = 13 ∨ j = 14 ∨ j = 15 ∨ j = 16 ∨ j = 17 ∨ j = 18 ∨ j = 19 ∨ j = 20 ∨ j = 21 ∨ j = 22 ∨ j = 23 ∨ j = 24 ∨ j = 25 ∨ j = 26 ∨ j = 27 ∨ j = 28 ∨ j = 29 ∨ 30 ≤ j by omega) with rfl | rfl | rfl | rfl | rfl | rfl | rfl | rfl | rfl | rfl | rfl | rfl | rfl | rfl | rfl | rfl | rfl | rfl | rfl | rfl | rfl | rfl | rfl | rfl | rfl | rfl | rfl | rfl | rfl | rfl | h
  · exact lv_tableIn (off := 135) (tgt := 168) hx hb dL_law_33 (by decide) (by decide) (by decide) (by decide) (lw_c0 C hi hl hI hP hS hK)
  · exact lv_tableIn (off := 189) (tgt := 222) hx hb dL_law_33 (by decide) (by decide) (by decide) (by decide) (lw_c1 C hi hl hI hP hS hK)
  · exact lv_tableIn (off := 252) (tgt := 285) hx hb dL_law_33 (by decide) (by decide) (by decide) (by decide) (lw_c2 C hi hl hI hP hS hK)
  · exact lv_tableIn (off := 315) (tgt := 348) hx hb dL_law_33 (by decide) (by decide) (by decide) (by decide) (lw_c3 C hi hl hI hP hS hK)
  · exact lv_tableIn (off := 389) (tgt := 422) hx hb dL_law_33 (by decide) (by decide) (by decide) (by decide) (lw_c4 C hi hl hI hP hS hK)
  · exact lv_tableIn (off := 493) (tgt := 526) hx hb dL_law_33 (by decide) (by decide) (by decide) (by decide) (lw_c5 C hi hl hI hP hS hK)
  · exact lv_tableIn (off := 546) (tgt := 579) hx hb dL_law_33 (by decide) (by decide) (by decide) (by decide) (lw_c6 C hi hl hI hP hS hK)
  · exact lv_tableIn (off := 600) (tgt := 633) hx hb dL_law_33 (by decide) (by decide) (by decide) (by decide) (lw_c7 C hi hl hI hP hS hK)
  · exact lv_tableIn (off := 623) (tgt := 656) hx hb dL_law_33 (by decide) (by decide) (by decide) (by decide) (lw_c8 C hi hl hI hP hS hK)
  · exact lv_tableIn (off := 686) (tgt := 719) hx hb dL_law_33 (by decide) (by decide) (by decide) (by decide) (lw_c9 C hi hl hI hP hS hK)
  · exact lv_tableIn (off := 750) (tgt := 783) hx hb dL_law_33 (by decide) (by decide) (by decide) (by decide) (lw_c10 C hi hl hI hP hS hK)
  · exact lv_tableIn (off := 843) (tgt := 876) hx hb dL_law_33 (by decide) (by decide) (by decide) (by decide) (lw_c11 C hi hl hI hP hS hK)
  · exact lv_tableIn (off := 876) (tgt := 909) hx hb dL_law_33 (by decide) (by decide) (by decide) (by decide) (lw_c12 C hi hl hI hP hS hK)
  · exact lv_tableIn (off := 900) (tgt := 933) hx hb dL_law_33 (by decide) (by decide) (by decide) (by decide) (lw_c13 C hi hl hI hP hS hK)
  · exact lv_tableIn (off := 954) (tgt := 987) hx hb dL_law_33 (by decide) (by decide) (by decide) (by decide) (lw_c14 C hi hl hI hP hS hK)
  · exact lv_tableIn (off := 1017) (tgt := 1050) hx hb dL_law_33 (by decide) (by decide) (by decide) (by decide) (lw_c15 C hi hl hI hP hS hK)
  · exact lv_tableIn (off := 1050) (tgt := 1083) hx hb dL_law_33 (by decide) (by decide) (by decide) (by decide) (lw_c16 C hi hl hI hP hS hK)
  · exact lv_tableIn (off := 1103) (tgt := 1136) hx hb dL_law_33 (by decide) (by decide) (by decide) (by decide) (lw_c17 C hi hl hI hP hS hK)
  · exact lv_tableIn (off := 1146) (tgt := 1179) hx hb dL_law_33 (by decide) (by decide) (by decide) (by decide) (lw_c18 C hi hl hI hP hS hK)
  · exact lv_tableIn (off := 1209) (tgt := 1242) hx hb dL_law_33 (by decide) (by decide) (by decide) (by decide) (lw_c19 C hi hl hI hP hS hK)
  · exact lv_tableIn (off := 1242) (tgt := 1275) hx hb dL_law_33 (by decide) (by decide) (by decide) (by decide) (lw_c20 C hi hl hI hP hS hK)
  · exact lv_tableIn (off := 1285) (tgt := 1318) hx hb dL_law_33 (by decide) (by decide) (by decide) (by decide) (lw_c21 C hi hl hI hP hS hK)
  · exact lv_tableIn (off := 1308) (tgt := 1341) hx hb dL_law_33 (by decide) (by decide) (by decide) (by decide) (lw_c22 C hi hl hI hP hS hK)
  · exact lv_tableIn (off := 1331) (tgt := 1364) hx hb dL_law_33 (by decide) (by decide) (by decide) (by decide) (lw_c23 C hi hl hI hP hS hK)
  · exact lv_tableIn (off := 1374) (tgt := 1407) hx hb dL_law_33 (by decide) (by decide) (by decide) (by decide) (lw_c24 C hi hl hI hP hS hK)
  · exact lv_tableIn (off := 1417) (tgt := 1450) hx hb dL_law_33 (by decide) (by decide) (by decide) (by decide) (lw_c25 C hi hl hI hP hS hK)
  · exact lv_tableIn (off := 1471) (tgt := 1504) hx hb dL_law_33 (by decide) (by decide) (by decide) (by decide) (lw_c26 C hi hl hI hP hS hK)
  · exact lv_tableIn (off := 1494) (tgt := 1527) hx hb dL_law_33 (by decide) (by decide) (by decide) (by decide) (lw_c27 C hi hl hI hP hS hK)
  · exact lv_tableIn (off := 1507) (tgt := 1540) hx hb dL_law_33 (by decide) (by decide) (by decide) (by decide) (lw_c28 C hi hl hI hP hS hK)
  · exact lv_tableIn (off := 1571) (tgt := 1604) hx hb dL_law_33 (by decide) (by decide) (by decide) (by decide) (lw_c29 C hi hl hI hP hS hK)
  · exact lv_tableOut (tgt := 1627) hx hb dL_law_33 (.inr (by rw [nI_toInt (by omega)]; omega)) (by decide) (hK cnt wX wY wP wl sR sC sS sE k1 k2 k3 k4 k5 st tc tz tr mw ml mp mq mX mY ms mst mr mc mo mu hI H locs hP hS)
set_option maxHeartbeats 4000000 in
set_option maxRecDepth 100000 in
theorem lw_loop (C : lwC p s m meth c b L xs D cI cT A R aL) : ∀ (n i : Nat), L + 6 ≤ i + 6 * n → i ≤ L + 6 → ∀ (cnt : Int32) (wX : Nat → Int32) (wY : Nat → Int32) (wP : Nat → Int32) (wl : Int32) (sR : Nat → Int32) (sC : Nat → Int32) (sS : Nat → Int32) (sE : Nat → Int32) (k1 : Int32) (k2 : Int32) (k3 : Int32) (k4 : Int32) (k5 : Int32) (st : Nat → Int32) (tc : Nat → Nat → Int32) (tz : Nat → Nat → Int32) (tr : Nat → Int32) (mw : Int32) (ml : Int32) (mp : Nat → Int32) (mq : Nat → Int32) (mX : Nat → Int32) (mY : Nat → Int32) (ms : Int32) (mst : Nat → Int32) (mr : Nat → Int32) (mc : Nat → Int32) (mo : Nat → Int32) (mu : Nat → Int32), lwI cnt wX wY wP wl sR sC sS sE k1 k2 k3 k4 k5 st tc tz tr mw ml mp mq mX mY ms mst mr mc mo mu → ∀ (H : Heap) (locs : List Loc), va_P D vwCl (lwW cI cT A R cnt wX wY wP wl sR sC sS sE k1 k2 k3 k4 k5 st tc tz tr mw ml mp mq mX mY ms mst mr mc mo mu) H → lwS s H locs → ∀ (ls : Array Slot), lv_has ls 4 (lwL b A i) → lwG p l e s m below meth c b H locs 18 ls [] := by
  have C9 := C
  obtain ⟨⟨hx, hb, -⟩, hX, hbl, -, -, -, -, -, hL⟩ := C9
  have hbA : ¬ (fun q : Nat => s.heap.size ≤ q) b := Nat.not_le.mpr hbl
  have e6 : (Int32.ofNat L - (6 : Int32)).toInt = (L : Int) - 6 := pk_sub_toInt (a := L) (b := 6) (by omega) (by decide)
  intro n
  induction n with
  | zero =>
    intro i h1 h2 cnt wX wY wP wl sR sC sS sE k1 k2 k3 k4 k5 st tc tz tr mw ml mp mq mX mY ms mst mr mc mo mu hI H locs hP hS ls hl
    refine lv_iload_n hx hb dL_law_18 rfl (lv_at hl 3 rfl) ?_
    refine lv_aload_n hx hb dL_law_19 rfl (lv_at hl 0 rfl) ?_
    refine va_slen hx hb hX hbl hbA hS dL_law_20 ?_
    refine lv_bipush (v := 6) hx hb dL_law_21 (by decide) ?_
    refine lv_isub hx hb dL_law_23 ?_
    refine lv_icmp_gt (tgt := 1633) hx hb dL_law_24 (by decide) (fun q => lw_exit C hS) (fun q => ?_)
    exfalso
    apply q
    rw [Int32.lt_iff_toInt_lt, e6, nI_toInt (by omega)]
    omega
  | succ n ih =>
    intro i h1 h2 cnt wX wY wP wl sR sC sS sE k1 k2 k3 k4 k5 st tc tz tr mw ml mp mq mX mY ms mst mr mc mo mu hI H locs hP hS ls hl
    refine lv_iload_n hx hb dL_law_18 rfl (lv_at hl 3 rfl) ?_
    refine lv_aload_n hx hb dL_law_19 rfl (lv_at hl 0 rfl) ?_
    refine va_slen hx hb hX hbl hbA hS dL_law_20 ?_
    refine lv_bipush (v := 6) hx hb dL_law_21 (by decide) ?_
    refine lv_isub hx hb dL_law_23 ?_
    refine lv_icmp_gt (tgt := 1633) hx hb dL_law_24 (by decide) (fun q => lw_exit C hS) (fun q => ?_)
    have hi : i + 6 ≤ L := by
      rw [Int32.lt_iff_toInt_lt, e6, nI_toInt (by omega)] at q
      omega
    refine lw_body C hi hl hI hP hS ?_
    intro cnt wX wY wP wl sR sC sS sE k1 k2 k3 k4 k5 st tc tz tr mw ml mp mq mX mY ms mst mr mc mo mu hI' H' locs' hP' hS'
    refine lv_iinc (v := nI (i + 6)) (lv' := [(3, .int (nI (i + 6))), (0, .ref b), (1, .ref (A 0)), (2, .ref (A 24))]) hx hb dL_law_1627 hl (k := 3) rfl (by rw [show Int32.ofInt 6 = nI 6 from by decide, nI_add]) (by decide) rfl (fun ls' hl' => ?_)
    refine lv_goto (tgt := 18) hx hb dL_law_1630 (by decide) ?_
    exact ih (i + 6) (by omega) (by omega) cnt wX wY wP wl sR sC sS sE k1 k2 k3 k4 k5 st tc tz tr mw ml mp mq mX mY ms mst mr mc mo mu hI' H' locs' hP' hS' ls' (lv_sub hl' [1, 2, 3, 0] rfl)
end LAWLOOP
