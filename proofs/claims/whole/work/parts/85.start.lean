theorem kI_blindO {D : va_G} {cI cT : ClassId} {w : va_W} {As : List Value} {sz : Nat} {Cn : String} : FrameBlind (va_Pc As (fun U => U.heap.size = sz ∧ va_P D vwCl w U.heap ∧ va_K D vwCl (kTy cI cT) U ∧ va_D (fun _ => True) w ∧ va_AO Cn U)) := fun a U g mk q =>
  ⟨q.1, q.2.1, q.2.2.1, va_K.moved (u := U) (U := U.calling g mk a) (Vm.Alike.refl U.vm) q.2.2.2.1, q.2.2.2.2.1, va_AO.moved (u := U) (U := U.calling g mk a) (Vm.Alike.refl U.vm) q.2.2.2.2.2⟩
theorem kD_nd {A : Nat → Prop} {ws : va_W} (h : va_D A ws) : (ws.map Prod.fst).Nodup := by
  refine List.pairwise_iff_getElem.mpr (fun i j hi hj hij e => ?_)
  rw [List.length_map] at hi hj
  rw [List.getElem_map, List.getElem_map] at e
  have := h.1 i j _ _ (List.getElem?_eq_getElem hi) (List.getElem?_eq_getElem hj) e
  omega
theorem kD_in {A : Nat → Prop} {ws : va_W} (h : va_D A ws) : ∀ q ∈ ws.map Prod.fst, A q := by
  intro q hq
  obtain ⟨x, hx, rfl⟩ := List.mem_map.mp hq
  obtain ⟨k, hk⟩ := List.getElem?_of_mem hx
  exact h.2 k x hk
theorem lw_init : lwI 0 (fun _ => 0) (fun _ => 0) (fun _ => 0) 0 (fun _ => 0) (fun _ => 0) (fun _ => 0) (fun _ => 0) 0 1 0 1 (-1) (fun _ => 0) (fun _ _ => 0) (fun _ _ => 0) (fun _ => 1) 0 0 (fun _ => 0) (fun _ => 0) (fun _ => 0) (fun _ => 0) 0 (fun _ => 0) (upd (upd (upd (upd (fun _ => 0) 0 1) 1 1) 2 1) 3 1) (fun _ => 0) (fun _ => 0) (fun _ => 0) := by
  refine ⟨⟨0, by decide, rfl, rfl, ⟨fun _ => rfl, fun _ => rfl⟩, fun i hi => absurd hi (by omega)⟩, ⟨0, by decide, rfl, rfl, fun i hi => absurd hi (by omega)⟩, fun t ht => ⟨1, by decide, by decide, rfl, ?_, fun c hc => ⟨0, by decide, rfl, rfl, by rw [sx0]; rfl, fun _ => rfl⟩⟩, fun i hi => .inl rfl⟩
  rcases lw_t4 ht with rfl | rfl | rfl | rfl <;> rfl
theorem wm_T0 : Cond.laysStatic "SixtyTablet$Turning" "LIST" "[I" ∈ lw_tbl := by decide +kernel
theorem wm_T0b : Cond.laysStatic "SixtyTablet$Turning" "LIST_OVER" "[I" ∈ lw_tbl := by decide +kernel
theorem wm_T1 : Cond.initialized "SixtyTablet$Turning" ∈ lw_tbl := by decide +kernel
theorem wm_T2 : Cond.instantiable RX0 9 ∈ lw_tbl := by decide +kernel
theorem wm_T3 : Cond.instantiable RX3 3 ∈ lw_tbl := by decide +kernel
theorem wm_T4 : Cond.instantiable RX5 4 ∈ lw_tbl := by decide +kernel
theorem wm_T5 : Cond.instantiable RX6 5 ∈ lw_tbl := by decide +kernel
theorem wm_T6 : Cond.instantiable RX7 12 ∈ lw_tbl := by decide +kernel
theorem wm_T7 : Cond.arrayClass .int ∈ lw_tbl := by decide +kernel
theorem wm_T8 : Cond.arrayOver (.object "SixtyTablet$Tablet") ∈ lw_tbl := by decide +kernel
theorem wm_L1 : Cond.classLink RL 7 RX6 ∈ wsL_law := by decide +kernel
theorem wm_L2 : Cond.initialized RX6 ∈ wsL_law := by decide +kernel
theorem wm_L3 : Cond.methodLink RL 9 yX6_init ∈ wsL_law := by decide +kernel
theorem wm_L4 : Cond.instanceMethod yX6_init ∈ wsL_law := by decide +kernel
theorem wm_L5 : Cond.classLink RL 10 RX7 ∈ wsL_law := by decide +kernel
theorem wm_L6 : Cond.initialized RX7 ∈ wsL_law := by decide +kernel
theorem wm_L7 : Cond.methodLink RL 12 yX7_init ∈ wsL_law := by decide +kernel
theorem wm_L8 : Cond.instanceMethod yX7_init ∈ wsL_law := by decide +kernel
def kTmw : Term := Term.static "SixtyTablet$Turning" "LIST" "[I"
theorem nw_0 : Cond.eq (.elem kTmw (.int 0)) (.int 2) ∈ flatC (Jvm.Cond.and given_1 narrow_1) := by decide +kernel
theorem nw_1 : Cond.eq (.elem kTmw (.int 1)) (.int 3) ∈ flatC (Jvm.Cond.and given_1 narrow_1) := by decide +kernel
theorem nw_2 : Cond.eq (.elem kTmw (.int 2)) (.int 4) ∈ flatC (Jvm.Cond.and given_1 narrow_1) := by decide +kernel
theorem nw_3 : Cond.eq (.elem kTmw (.int 3)) (.int 5) ∈ flatC (Jvm.Cond.and given_1 narrow_1) := by decide +kernel
theorem nw_4 : Cond.eq (.elem kTmw (.int 4)) (.int 6) ∈ flatC (Jvm.Cond.and given_1 narrow_1) := by decide +kernel
theorem nw_5 : Cond.eq (.elem kTmw (.int 5)) (.int 8) ∈ flatC (Jvm.Cond.and given_1 narrow_1) := by decide +kernel
theorem nw_6 : Cond.eq (.elem kTmw (.int 6)) (.int 9) ∈ flatC (Jvm.Cond.and given_1 narrow_1) := by decide +kernel
theorem nw_7 : Cond.eq (.elem kTmw (.int 7)) (.int 10) ∈ flatC (Jvm.Cond.and given_1 narrow_1) := by decide +kernel
theorem nw_8 : Cond.eq (.elem kTmw (.int 8)) (.int 12) ∈ flatC (Jvm.Cond.and given_1 narrow_1) := by decide +kernel
theorem nw_9 : Cond.eq (.elem kTmw (.int 9)) (.int 15) ∈ flatC (Jvm.Cond.and given_1 narrow_1) := by decide +kernel
theorem nw_10 : Cond.eq (.elem kTmw (.int 10)) (.int 16) ∈ flatC (Jvm.Cond.and given_1 narrow_1) := by decide +kernel
theorem nw_11 : Cond.eq (.elem kTmw (.int 11)) (.int 18) ∈ flatC (Jvm.Cond.and given_1 narrow_1) := by decide +kernel
theorem nw_12 : Cond.eq (.elem kTmw (.int 12)) (.int 20) ∈ flatC (Jvm.Cond.and given_1 narrow_1) := by decide +kernel
theorem nw_13 : Cond.eq (.elem kTmw (.int 13)) (.int 24) ∈ flatC (Jvm.Cond.and given_1 narrow_1) := by decide +kernel
theorem nw_14 : Cond.eq (.elem kTmw (.int 14)) (.int 25) ∈ flatC (Jvm.Cond.and given_1 narrow_1) := by decide +kernel
theorem nw_15 : Cond.eq (.elem kTmw (.int 15)) (.int 27) ∈ flatC (Jvm.Cond.and given_1 narrow_1) := by decide +kernel
theorem nw_16 : Cond.eq (.elem kTmw (.int 16)) (.int 30) ∈ flatC (Jvm.Cond.and given_1 narrow_1) := by decide +kernel
theorem nw_17 : Cond.eq (.elem kTmw (.int 17)) (.int 32) ∈ flatC (Jvm.Cond.and given_1 narrow_1) := by decide +kernel
theorem nw_18 : Cond.eq (.elem kTmw (.int 18)) (.int 36) ∈ flatC (Jvm.Cond.and given_1 narrow_1) := by decide +kernel
theorem nw_19 : Cond.eq (.elem kTmw (.int 19)) (.int 40) ∈ flatC (Jvm.Cond.and given_1 narrow_1) := by decide +kernel
theorem nw_20 : Cond.eq (.elem kTmw (.int 20)) (.int 45) ∈ flatC (Jvm.Cond.and given_1 narrow_1) := by decide +kernel
theorem nw_21 : Cond.eq (.elem kTmw (.int 21)) (.int 48) ∈ flatC (Jvm.Cond.and given_1 narrow_1) := by decide +kernel
theorem nw_22 : Cond.eq (.elem kTmw (.int 22)) (.int 50) ∈ flatC (Jvm.Cond.and given_1 narrow_1) := by decide +kernel
theorem nw_23 : Cond.eq (.elem kTmw (.int 23)) (.int 54) ∈ flatC (Jvm.Cond.and given_1 narrow_1) := by decide +kernel
theorem nw_24 : Cond.eq (.elem kTmw (.int 24)) (.int 64) ∈ flatC (Jvm.Cond.and given_1 narrow_1) := by decide +kernel
theorem nw_25 : Cond.eq (.elem kTmw (.int 25)) (.int 72) ∈ flatC (Jvm.Cond.and given_1 narrow_1) := by decide +kernel
theorem nw_26 : Cond.eq (.elem kTmw (.int 26)) (.int 75) ∈ flatC (Jvm.Cond.and given_1 narrow_1) := by decide +kernel
theorem nw_27 : Cond.eq (.elem kTmw (.int 27)) (.int 80) ∈ flatC (Jvm.Cond.and given_1 narrow_1) := by decide +kernel
theorem nw_28 : Cond.eq (.elem kTmw (.int 28)) (.int 81) ∈ flatC (Jvm.Cond.and given_1 narrow_1) := by decide +kernel
theorem nw_a : Cond.arrayOf kTmw .int ∈ flatC (Jvm.Cond.and given_1 narrow_1) := by decide +kernel
theorem nw_l : Cond.eq (.length kTmw) (.int 29) ∈ flatC (Jvm.Cond.and given_1 narrow_1) := by decide +kernel
theorem kListw {args : Array Value} {s : State} (hlay : (Cond.laysStatic "SixtyTablet$Turning" "LIST" "[I").before args s = true) (hini : (Cond.initialized "SixtyTablet$Turning").before args s = true) (hgv : (Jvm.Cond.and given_1 narrow_1).before args s = true) : ∃ a, va_Z "SixtyTablet$Turning" "LIST" "[I" (.ref a) (fun q : Nat => s.heap.size ≤ q) s s.heap ∧ va_T .int a 29 (fun j => .int (kLf j)) (fun q : Nat => s.heap.size ≤ q) s s.heap := by
  have hf := flat_of_before _ hgv
  have hA : ∀ a : Nat, a < s.heap.size → ¬ (fun q : Nat => s.heap.size ≤ q) a := fun a h q => absurd h (Nat.not_lt.mpr q)
  obtain ⟨t, ht, hT⟩ := va_Tof (tm := kTmw) (ty := .int) (N := 29) (f := fun j => .int (kLf j)) (A := fun q : Nat => s.heap.size ≤ q) (by decide) (hf _ nw_a) (va_eqt (hf _ nw_l)) (fun j hj => by
    rcases (show j = 0 ∨ j = 1 ∨ j = 2 ∨ j = 3 ∨ j = 4 ∨ j = 5 ∨ j = 6 ∨ j = 7 ∨ j = 8 ∨ j = 9 ∨ j = 10 ∨ j = 11 ∨ j = 12 ∨ j = 13 ∨ j = 14 ∨ j = 15 ∨ j = 16 ∨ j = 17 ∨ j = 18 ∨ j = 19 ∨ j = 20 ∨ j = 21 ∨ j = 22 ∨ j = 23 ∨ j = 24 ∨ j = 25 ∨ j = 26 ∨ j = 27 ∨ j = 28 by omega) with rfl | rfl | rfl | rfl | rfl | rfl | rfl | rfl | rfl | rfl | rfl | rfl | rfl | rfl | rfl | rfl | rfl | rfl | rfl | rfl | rfl | rfl | rfl | rfl | rfl | rfl | rfl | rfl | rfl
    · exact va_eqt (hf _ nw_0)
    · exact va_eqt (hf _ nw_1)
    · exact va_eqt (hf _ nw_2)
    · exact va_eqt (hf _ nw_3)
    · exact va_eqt (hf _ nw_4)
    · exact va_eqt (hf _ nw_5)
    · exact va_eqt (hf _ nw_6)
    · exact va_eqt (hf _ nw_7)
    · exact va_eqt (hf _ nw_8)
    · exact va_eqt (hf _ nw_9)
    · exact va_eqt (hf _ nw_10)
    · exact va_eqt (hf _ nw_11)
    · exact va_eqt (hf _ nw_12)
    · exact va_eqt (hf _ nw_13)
    · exact va_eqt (hf _ nw_14)
    · exact va_eqt (hf _ nw_15)
    · exact va_eqt (hf _ nw_16)
    · exact va_eqt (hf _ nw_17)
    · exact va_eqt (hf _ nw_18)
    · exact va_eqt (hf _ nw_19)
    · exact va_eqt (hf _ nw_20)
    · exact va_eqt (hf _ nw_21)
    · exact va_eqt (hf _ nw_22)
    · exact va_eqt (hf _ nw_23)
    · exact va_eqt (hf _ nw_24)
    · exact va_eqt (hf _ nw_25)
    · exact va_eqt (hf _ nw_26)
    · exact va_eqt (hf _ nw_27)
    · exact va_eqt (hf _ nw_28)) hA
  exact ⟨t, va_Zref hlay hini ht hA, hT⟩
def kTmo : Term := Term.static "SixtyTablet$Turning" "LIST_OVER" "[I"
theorem no_0 : Cond.eq (.elem kTmo (.int 0)) (.int 30) ∈ flatC (Jvm.Cond.and given_1 narrow_1) := by decide +kernel
theorem no_1 : Cond.eq (.elem kTmo (.int 1)) (.int 20) ∈ flatC (Jvm.Cond.and given_1 narrow_1) := by decide +kernel
theorem no_2 : Cond.eq (.elem kTmo (.int 2)) (.int 15) ∈ flatC (Jvm.Cond.and given_1 narrow_1) := by decide +kernel
theorem no_3 : Cond.eq (.elem kTmo (.int 3)) (.int 12) ∈ flatC (Jvm.Cond.and given_1 narrow_1) := by decide +kernel
theorem no_4 : Cond.eq (.elem kTmo (.int 4)) (.int 10) ∈ flatC (Jvm.Cond.and given_1 narrow_1) := by decide +kernel
theorem no_5 : Cond.eq (.elem kTmo (.int 5)) (.int 450) ∈ flatC (Jvm.Cond.and given_1 narrow_1) := by decide +kernel
theorem no_6 : Cond.eq (.elem kTmo (.int 6)) (.int 400) ∈ flatC (Jvm.Cond.and given_1 narrow_1) := by decide +kernel
theorem no_7 : Cond.eq (.elem kTmo (.int 7)) (.int 6) ∈ flatC (Jvm.Cond.and given_1 narrow_1) := by decide +kernel
theorem no_8 : Cond.eq (.elem kTmo (.int 8)) (.int 5) ∈ flatC (Jvm.Cond.and given_1 narrow_1) := by decide +kernel
theorem no_9 : Cond.eq (.elem kTmo (.int 9)) (.int 4) ∈ flatC (Jvm.Cond.and given_1 narrow_1) := by decide +kernel
theorem no_10 : Cond.eq (.elem kTmo (.int 10)) (.int 225) ∈ flatC (Jvm.Cond.and given_1 narrow_1) := by decide +kernel
theorem no_11 : Cond.eq (.elem kTmo (.int 11)) (.int 200) ∈ flatC (Jvm.Cond.and given_1 narrow_1) := by decide +kernel
theorem no_12 : Cond.eq (.elem kTmo (.int 12)) (.int 3) ∈ flatC (Jvm.Cond.and given_1 narrow_1) := by decide +kernel
theorem no_13 : Cond.eq (.elem kTmo (.int 13)) (.int 150) ∈ flatC (Jvm.Cond.and given_1 narrow_1) := by decide +kernel
theorem no_14 : Cond.eq (.elem kTmo (.int 14)) (.int 144) ∈ flatC (Jvm.Cond.and given_1 narrow_1) := by decide +kernel
theorem no_15 : Cond.eq (.elem kTmo (.int 15)) (.int 8000) ∈ flatC (Jvm.Cond.and given_1 narrow_1) := by decide +kernel
theorem no_16 : Cond.eq (.elem kTmo (.int 16)) (.int 2) ∈ flatC (Jvm.Cond.and given_1 narrow_1) := by decide +kernel
theorem no_17 : Cond.eq (.elem kTmo (.int 17)) (.int 6750) ∈ flatC (Jvm.Cond.and given_1 narrow_1) := by decide +kernel
theorem no_18 : Cond.eq (.elem kTmo (.int 18)) (.int 100) ∈ flatC (Jvm.Cond.and given_1 narrow_1) := by decide +kernel
theorem no_19 : Cond.eq (.elem kTmo (.int 19)) (.int 90) ∈ flatC (Jvm.Cond.and given_1 narrow_1) := by decide +kernel
theorem no_20 : Cond.eq (.elem kTmo (.int 20)) (.int 80) ∈ flatC (Jvm.Cond.and given_1 narrow_1) := by decide +kernel
theorem no_21 : Cond.eq (.elem kTmo (.int 21)) (.int 75) ∈ flatC (Jvm.Cond.and given_1 narrow_1) := by decide +kernel
theorem no_22 : Cond.eq (.elem kTmo (.int 22)) (.int 72) ∈ flatC (Jvm.Cond.and given_1 narrow_1) := by decide +kernel
theorem no_23 : Cond.eq (.elem kTmo (.int 23)) (.int 4000) ∈ flatC (Jvm.Cond.and given_1 narrow_1) := by decide +kernel
theorem no_24 : Cond.eq (.elem kTmo (.int 24)) (.int 3375) ∈ flatC (Jvm.Cond.and given_1 narrow_1) := by decide +kernel
theorem no_25 : Cond.eq (.elem kTmo (.int 25)) (.int 50) ∈ flatC (Jvm.Cond.and given_1 narrow_1) := by decide +kernel
theorem no_26 : Cond.eq (.elem kTmo (.int 26)) (.int 48) ∈ flatC (Jvm.Cond.and given_1 narrow_1) := by decide +kernel
theorem no_27 : Cond.eq (.elem kTmo (.int 27)) (.int 45) ∈ flatC (Jvm.Cond.and given_1 narrow_1) := by decide +kernel
theorem no_28 : Cond.eq (.elem kTmo (.int 28)) (.int 160000) ∈ flatC (Jvm.Cond.and given_1 narrow_1) := by decide +kernel
theorem no_a : Cond.arrayOf kTmo .int ∈ flatC (Jvm.Cond.and given_1 narrow_1) := by decide +kernel
theorem no_l : Cond.eq (.length kTmo) (.int 29) ∈ flatC (Jvm.Cond.and given_1 narrow_1) := by decide +kernel
theorem kListo {args : Array Value} {s : State} (hlay : (Cond.laysStatic "SixtyTablet$Turning" "LIST_OVER" "[I").before args s = true) (hini : (Cond.initialized "SixtyTablet$Turning").before args s = true) (hgv : (Jvm.Cond.and given_1 narrow_1).before args s = true) : ∃ a, va_Z "SixtyTablet$Turning" "LIST_OVER" "[I" (.ref a) (fun q : Nat => s.heap.size ≤ q) s s.heap ∧ va_T .int a 29 (fun j => .int (kOf j)) (fun q : Nat => s.heap.size ≤ q) s s.heap := by
  have hf := flat_of_before _ hgv
  have hA : ∀ a : Nat, a < s.heap.size → ¬ (fun q : Nat => s.heap.size ≤ q) a := fun a h q => absurd h (Nat.not_lt.mpr q)
  obtain ⟨t, ht, hT⟩ := va_Tof (tm := kTmo) (ty := .int) (N := 29) (f := fun j => .int (kOf j)) (A := fun q : Nat => s.heap.size ≤ q) (by decide) (hf _ no_a) (va_eqt (hf _ no_l)) (fun j hj => by
    rcases (show j = 0 ∨ j = 1 ∨ j = 2 ∨ j = 3 ∨ j = 4 ∨ j = 5 ∨ j = 6 ∨ j = 7 ∨ j = 8 ∨ j = 9 ∨ j = 10 ∨ j = 11 ∨ j = 12 ∨ j = 13 ∨ j = 14 ∨ j = 15 ∨ j = 16 ∨ j = 17 ∨ j = 18 ∨ j = 19 ∨ j = 20 ∨ j = 21 ∨ j = 22 ∨ j = 23 ∨ j = 24 ∨ j = 25 ∨ j = 26 ∨ j = 27 ∨ j = 28 by omega) with rfl | rfl | rfl | rfl | rfl | rfl | rfl | rfl | rfl | rfl | rfl | rfl | rfl | rfl | rfl | rfl | rfl | rfl | rfl | rfl | rfl | rfl | rfl | rfl | rfl | rfl | rfl | rfl | rfl
    · exact va_eqt (hf _ no_0)
    · exact va_eqt (hf _ no_1)
    · exact va_eqt (hf _ no_2)
    · exact va_eqt (hf _ no_3)
    · exact va_eqt (hf _ no_4)
    · exact va_eqt (hf _ no_5)
    · exact va_eqt (hf _ no_6)
    · exact va_eqt (hf _ no_7)
    · exact va_eqt (hf _ no_8)
    · exact va_eqt (hf _ no_9)
    · exact va_eqt (hf _ no_10)
    · exact va_eqt (hf _ no_11)
    · exact va_eqt (hf _ no_12)
    · exact va_eqt (hf _ no_13)
    · exact va_eqt (hf _ no_14)
    · exact va_eqt (hf _ no_15)
    · exact va_eqt (hf _ no_16)
    · exact va_eqt (hf _ no_17)
    · exact va_eqt (hf _ no_18)
    · exact va_eqt (hf _ no_19)
    · exact va_eqt (hf _ no_20)
    · exact va_eqt (hf _ no_21)
    · exact va_eqt (hf _ no_22)
    · exact va_eqt (hf _ no_23)
    · exact va_eqt (hf _ no_24)
    · exact va_eqt (hf _ no_25)
    · exact va_eqt (hf _ no_26)
    · exact va_eqt (hf _ no_27)
    · exact va_eqt (hf _ no_28)) hA
  exact ⟨t, va_Zref hlay hini ht hA, hT⟩
set_option maxHeartbeats 4000000 in
set_option maxRecDepth 100000 in
/-- THE LAW, from its entry -/
theorem whole_start {p : Program} {e : Env} {s : State} {m : MethodId} {below : List Frame} {meth : Method} {c : Code} (l : Launch) {b L : Nat} {xs : Nat → Int32} (hL : L ≤ 3072) (C0 : lw_At p s m meth c b L xs) : W p l e room_1 s m #[Value.ref b] below meth c s.heap [] 0 0 (lw_Z below #[Value.ref b] s) (entryFrame m ([Value.ref b] : List Value).toArray 4) := by
  obtain ⟨hx, hb, hr, hml, hown, hts, hX, hbl, hlocks, hgv⟩ := id C0
  have htsL : ∀ w ∈ wsL_law, w.before #[Value.ref b] s = true := fun w hw => hts w (wsL_law_in w hw)
  have hown : s.vm.findClass RL = some m.cls := hown
  have hA : ∀ q : Nat, s.heap.size ≤ q → (fun q : Nat => s.heap.size ≤ q) q := fun _ h => h
  have hbA : ¬ (fun q : Nat => s.heap.size ≤ q) b := Nat.not_le.mpr hbl
  obtain ⟨aL1, hLz1⟩ := kListw (hts _ wm_T0) (hts _ wm_T1) hgv
  obtain ⟨aL2, hLz2⟩ := kListo (hts _ wm_T0b) (hts _ wm_T1) hgv
  obtain ⟨aL, haL⟩ : ∃ a : Nat × Nat, a = (aL1, aL2) := ⟨_, rfl⟩
  have hLz : kLz aL (fun q : Nat => s.heap.size ≤ q) s s.heap := by rw [haL]; exact ⟨hLz1, hLz2⟩
  obtain ⟨c0, iS0, hKn0⟩ := u_known (C := RX0) (T := TX0) (N := 9) (n := 9) hts wsX00_in (hts _ wm_T2)
  obtain ⟨c1, iS1, hKn1⟩ := u_known (C := RX3) (T := TX3) (N := 3) (n := 3) hts wsX30_in (hts _ wm_T3)
  obtain ⟨c2, iS2, hKn2⟩ := u_known (C := RX5) (T := TX5) (N := 4) (n := 4) hts wsX50_in (hts _ wm_T4)
  obtain ⟨c3, iS3, hKn3⟩ := u_known (C := RX6) (T := TX6) (N := 5) (n := 5) hts wsX60_in (hts _ wm_T5)
  obtain ⟨c4, iS4, hKn4⟩ := u_known (C := RX7) (T := TX7) (N := 12) (n := 12) hts wsX70_in (hts _ wm_T6)
  obtain ⟨cI, kI, compI, i1, i2, i3⟩ := Cond.arrayClass_spec (hts _ wm_T7)
  have hAO : va_AO "SixtyTablet$Tablet" s := va_AO.of (hts _ wm_T8)
  obtain ⟨comp, cT, kT, t1, -, t3, t4, t5⟩ := Cond.arrayOver_spec hAO
  obtain ⟨D, hK⟩ : ∃ D : va_G, va_K D vwCl (kTy cI cT) s := by
    refine ⟨(fun k => if k = 0 then c0 else if k = 1 then c1 else if k = 2 then c2 else if k = 3 then c3 else c4, fun k => if k = 0 then iS0 else if k = 1 then iS1 else if k = 2 then iS2 else if k = 3 then iS3 else iS4), ?_, ?_⟩
    · intro k q hq
      match k, hq with
      | 0, hq => cases hq; exact hKn0
      | 1, hq => cases hq; exact hKn1
      | 2, hq => cases hq; exact hKn2
      | 3, hq => cases hq; exact hKn3
      | 4, hq => cases hq; exact hKn4
      | k + 5, hq => simp [vwCl] at hq
    · intro k q hq
      match k, hq with
      | 0, hq => cases hq; exact ⟨fun n z => ⟨(fun k h => by cases h), kI, i2, compI, i3⟩, i1⟩
      | 1, hq => cases hq; exact ⟨fun n z => ⟨(fun k h => by cases h), kT, t3, comp, t4⟩, kT, comp, t3, t4, t1, t5⟩
      | k + 2, hq => simp [kTy] at hq
  have hS : va_S (fun q : Nat => s.heap.size ≤ q) s.heap s.heap [] := va_S.rf
  have hP : va_P D vwCl [] s.heap := fun k q h => by simp at h
  have hD : va_D (fun q : Nat => s.heap.size ≤ q) [] := ⟨fun i j p q h => by simp at h, fun k q h => by simp at h⟩
  have hl := lv_entry ([.ref b]) (n := 4) (Nat.le_of_ble_eq_true rfl)
  rw [lg_entry_eq]
  generalize (lg_sl ([.ref b]) ++ List.replicate (4 - (lg_sl ([.ref b])).length) Slot.unset).toArray = ls at hl ⊢
  have hl : lv_has ls 4 [(0, .ref b)] := hl
  refine va_new (ci := 3) (fs := [.null, .null, .null, .null, .int 0]) (C := RX6) (T := TX6) (N := 5) hx hb hts wsX60_in tyX6 tyX6_ok hown (htsL _ wm_L1) (hts _ wm_T5) (htsL _ wm_L2) hK hP hD hS hA rfl (fun j hj => by rcases (show j = 0 ∨ j = 1 ∨ j = 2 ∨ j = 3 ∨ j = 4 by omega) with rfl | rfl | rfl | rfl | rfl <;> rfl) (Nat.le_of_ble_eq_true rfl) (Nat.le_of_ble_eq_true rfl) dL_law_0 (fun q0 H hP hD hS => ?_)
  have hP : va_P D vwCl [(q0, .inr (3, [.null, .null, .null, .null, .int 0]))] H := hP
  have hD : va_D (fun q : Nat => s.heap.size ≤ q) [(q0, .inr (3, [.null, .null, .null, .null, .int 0]))] := hD
  refine W.widen (k := 1) (n := 5) (by omega) (by omega) ?_
  refine lv_dup hx hb dL_law_3 rfl ?_
  have hPc := hP.sub (ws' := [(q0, .inr (3, [.null, .null, .null, .null, .int 0]))]) [0] rfl
  have hDc := hD.sub (ws' := [(q0, .inr (3, [.null, .null, .null, .null, .int 0]))]) [0] (by decide) rfl
  have hFc := va_free (wc := [(q0, .inr (3, [.null, .null, .null, .null, .int 0]))]) hD hS hA [0] rfl
  refine va_callv (va_runI (As := []) (rest := [.ref q0]) ⟨hx, hb, hml, hown, htsL⟩ (ctX6_init l D cI cT q0 H.size) (cwI 0 htsL gL_law_X6_init rfl rfl rfl (htsL _ wm_L2) (htsL _ wm_L3) (htsL _ wm_L4) rfl (by decide +kernel) ⟨Nat.le_of_ble_eq_true rfl, Nat.le_of_ble_eq_true rfl⟩) ⟨kI_blindO, fun U hU hW => ⟨rfl, by rw [hU], by rw [hU]; exact hPc, va_K.moved hW.alike hK, hDc.weaken (fun _ _ _ _ => trivial), va_AO.moved hW.alike hAO⟩⟩ rfl rfl hl.1 rfl (lv_room (Nat.le_of_ble_eq_true rfl)) dL_law_4 ⟨Nat.le_of_ble_eq_true rfl, Nat.le_of_ble_eq_true rfl⟩) hS (fun q _ h => hFc q h) hFc (fun u t H1 locs ht hvm hw hB hz1 hk1 hS => ?_)
  obtain ⟨q1, q2, q3, q4, q5, q6, q7, q8, q9, q10, q11, q12, q13, q14, q15, q16, q17, q18, q19, q20, q21, q22, q23, hP1, hD1⟩ := hB
  rw [ht] at hP1
  obtain ⟨hP, hD⟩ := va_join (wr := []) (w1 := [(q0, .inr (3, [.ref q1, .ref q11, .ref q5, .ref q10, .int 0])), (q1, .inr (2, [.ref q2, .ref q3, .ref q4, .int 0])), (q2, .inl (cI, 16, .inl (fun _ => 0))), (q3, .inl (cI, 16, .inl (fun _ => 0))), (q4, .inl (cI, 16, .inl (fun _ => 0))), (q5, .inr (0, [.ref q6, .ref q7, .ref q8, .ref q9, .int 0, .int 1, .int 0, .int 1, .int (-1)])), (q6, .inl (cI, 24, .inl (fun _ => 0))), (q7, .inl (cI, 24, .inl (fun _ => 0))), (q8, .inl (cI, 24, .inl (fun _ => 0))), (q9, .inl (cI, 24, .inl (fun _ => 0))), (q10, .inl (cI, 5, .inl (fun _ => 0))), (q11, .inl (cT, 4, .inr (.inr (.inr (.inr (va_up (va_up (va_up (va_up (fun _ => none) 0 (some q12)) 1 (some q15)) 2 (some q18)) 3 (some q21))))))), (q12, .inr (1, [.ref q13, .ref q14, .int 1])), (q13, .inl (cI, 24, .inl (fun _ => 0))), (q14, .inl (cI, 24, .inl (fun _ => 0))), (q15, .inr (1, [.ref q16, .ref q17, .int 1])), (q16, .inl (cI, 24, .inl (fun _ => 0))), (q17, .inl (cI, 24, .inl (fun _ => 0))), (q18, .inr (1, [.ref q19, .ref q20, .int 1])), (q19, .inl (cI, 24, .inl (fun _ => 0))), (q20, .inl (cI, 24, .inl (fun _ => 0))), (q21, .inr (1, [.ref q22, .ref q23, .int 1])), (q22, .inl (cI, 24, .inl (fun _ => 0))), (q23, .inl (cI, 24, .inl (fun _ => 0)))]) hP hD [0] [] rfl rfl (by decide) (by decide) hk1 hFc hP1 hD1
  generalize H1 = H at hP hS ⊢
  have hP : va_P D vwCl [(q0, .inr (3, [.ref q1, .ref q11, .ref q5, .ref q10, .int 0])), (q1, .inr (2, [.ref q2, .ref q3, .ref q4, .int 0])), (q2, .inl (cI, 16, .inl (fun _ => 0))), (q3, .inl (cI, 16, .inl (fun _ => 0))), (q4, .inl (cI, 16, .inl (fun _ => 0))), (q5, .inr (0, [.ref q6, .ref q7, .ref q8, .ref q9, .int 0, .int 1, .int 0, .int 1, .int (-1)])), (q6, .inl (cI, 24, .inl (fun _ => 0))), (q7, .inl (cI, 24, .inl (fun _ => 0))), (q8, .inl (cI, 24, .inl (fun _ => 0))), (q9, .inl (cI, 24, .inl (fun _ => 0))), (q10, .inl (cI, 5, .inl (fun _ => 0))), (q11, .inl (cT, 4, .inr (.inr (.inr (.inr (va_up (va_up (va_up (va_up (fun _ => none) 0 (some q12)) 1 (some q15)) 2 (some q18)) 3 (some q21))))))), (q12, .inr (1, [.ref q13, .ref q14, .int 1])), (q13, .inl (cI, 24, .inl (fun _ => 0))), (q14, .inl (cI, 24, .inl (fun _ => 0))), (q15, .inr (1, [.ref q16, .ref q17, .int 1])), (q16, .inl (cI, 24, .inl (fun _ => 0))), (q17, .inl (cI, 24, .inl (fun _ => 0))), (q18, .inr (1, [.ref q19, .ref q20, .int 1])), (q19, .inl (cI, 24, .inl (fun _ => 0))), (q20, .inl (cI, 24, .inl (fun _ => 0))), (q21, .inr (1, [.ref q22, .ref q23, .int 1])), (q22, .inl (cI, 24, .inl (fun _ => 0))), (q23, .inl (cI, 24, .inl (fun _ => 0)))] H := hP
  have hD : va_D (fun q : Nat => s.heap.size ≤ q) [(q0, .inr (3, [.ref q1, .ref q11, .ref q5, .ref q10, .int 0])), (q1, .inr (2, [.ref q2, .ref q3, .ref q4, .int 0])), (q2, .inl (cI, 16, .inl (fun _ => 0))), (q3, .inl (cI, 16, .inl (fun _ => 0))), (q4, .inl (cI, 16, .inl (fun _ => 0))), (q5, .inr (0, [.ref q6, .ref q7, .ref q8, .ref q9, .int 0, .int 1, .int 0, .int 1, .int (-1)])), (q6, .inl (cI, 24, .inl (fun _ => 0))), (q7, .inl (cI, 24, .inl (fun _ => 0))), (q8, .inl (cI, 24, .inl (fun _ => 0))), (q9, .inl (cI, 24, .inl (fun _ => 0))), (q10, .inl (cI, 5, .inl (fun _ => 0))), (q11, .inl (cT, 4, .inr (.inr (.inr (.inr (va_up (va_up (va_up (va_up (fun _ => none) 0 (some q12)) 1 (some q15)) 2 (some q18)) 3 (some q21))))))), (q12, .inr (1, [.ref q13, .ref q14, .int 1])), (q13, .inl (cI, 24, .inl (fun _ => 0))), (q14, .inl (cI, 24, .inl (fun _ => 0))), (q15, .inr (1, [.ref q16, .ref q17, .int 1])), (q16, .inl (cI, 24, .inl (fun _ => 0))), (q17, .inl (cI, 24, .inl (fun _ => 0))), (q18, .inr (1, [.ref q19, .ref q20, .int 1])), (q19, .inl (cI, 24, .inl (fun _ => 0))), (q20, .inl (cI, 24, .inl (fun _ => 0))), (q21, .inr (1, [.ref q22, .ref q23, .int 1])), (q22, .inl (cI, 24, .inl (fun _ => 0))), (q23, .inl (cI, 24, .inl (fun _ => 0)))] := hD
  refine W.widen (k := 24) (n := 375) (by omega) (by omega) ?_
  refine lv_astore_n (lv' := [(1, .ref q0), (0, .ref b)]) hx hb dL_law_7 rfl hl (by decide) rfl (fun ls hl => ?_)
  refine va_new (ci := 4) (fs := [.int 0, .int 0, .null, .null, .null, .null, .int 0, .null, .null, .null, .null, .null]) (C := RX7) (T := TX7) (N := 12) hx hb hts wsX70_in tyX7 tyX7_ok hown (htsL _ wm_L5) (hts _ wm_T6) (htsL _ wm_L6) hK hP hD hS hA rfl (fun j hj => by rcases (show j = 0 ∨ j = 1 ∨ j = 2 ∨ j = 3 ∨ j = 4 ∨ j = 5 ∨ j = 6 ∨ j = 7 ∨ j = 8 ∨ j = 9 ∨ j = 10 ∨ j = 11 by omega) with rfl | rfl | rfl | rfl | rfl | rfl | rfl | rfl | rfl | rfl | rfl | rfl <;> rfl) (Nat.le_of_ble_eq_true rfl) (Nat.le_of_ble_eq_true rfl) dL_law_8 (fun q24 H hP hD hS => ?_)
  have hP : va_P D vwCl [(q0, .inr (3, [.ref q1, .ref q11, .ref q5, .ref q10, .int 0])), (q1, .inr (2, [.ref q2, .ref q3, .ref q4, .int 0])), (q2, .inl (cI, 16, .inl (fun _ => 0))), (q3, .inl (cI, 16, .inl (fun _ => 0))), (q4, .inl (cI, 16, .inl (fun _ => 0))), (q5, .inr (0, [.ref q6, .ref q7, .ref q8, .ref q9, .int 0, .int 1, .int 0, .int 1, .int (-1)])), (q6, .inl (cI, 24, .inl (fun _ => 0))), (q7, .inl (cI, 24, .inl (fun _ => 0))), (q8, .inl (cI, 24, .inl (fun _ => 0))), (q9, .inl (cI, 24, .inl (fun _ => 0))), (q10, .inl (cI, 5, .inl (fun _ => 0))), (q11, .inl (cT, 4, .inr (.inr (.inr (.inr (va_up (va_up (va_up (va_up (fun _ => none) 0 (some q12)) 1 (some q15)) 2 (some q18)) 3 (some q21))))))), (q12, .inr (1, [.ref q13, .ref q14, .int 1])), (q13, .inl (cI, 24, .inl (fun _ => 0))), (q14, .inl (cI, 24, .inl (fun _ => 0))), (q15, .inr (1, [.ref q16, .ref q17, .int 1])), (q16, .inl (cI, 24, .inl (fun _ => 0))), (q17, .inl (cI, 24, .inl (fun _ => 0))), (q18, .inr (1, [.ref q19, .ref q20, .int 1])), (q19, .inl (cI, 24, .inl (fun _ => 0))), (q20, .inl (cI, 24, .inl (fun _ => 0))), (q21, .inr (1, [.ref q22, .ref q23, .int 1])), (q22, .inl (cI, 24, .inl (fun _ => 0))), (q23, .inl (cI, 24, .inl (fun _ => 0))), (q24, .inr (4, [.int 0, .int 0, .null, .null, .null, .null, .int 0, .null, .null, .null, .null, .null]))] H := hP
  have hD : va_D (fun q : Nat => s.heap.size ≤ q) [(q0, .inr (3, [.ref q1, .ref q11, .ref q5, .ref q10, .int 0])), (q1, .inr (2, [.ref q2, .ref q3, .ref q4, .int 0])), (q2, .inl (cI, 16, .inl (fun _ => 0))), (q3, .inl (cI, 16, .inl (fun _ => 0))), (q4, .inl (cI, 16, .inl (fun _ => 0))), (q5, .inr (0, [.ref q6, .ref q7, .ref q8, .ref q9, .int 0, .int 1, .int 0, .int 1, .int (-1)])), (q6, .inl (cI, 24, .inl (fun _ => 0))), (q7, .inl (cI, 24, .inl (fun _ => 0))), (q8, .inl (cI, 24, .inl (fun _ => 0))), (q9, .inl (cI, 24, .inl (fun _ => 0))), (q10, .inl (cI, 5, .inl (fun _ => 0))), (q11, .inl (cT, 4, .inr (.inr (.inr (.inr (va_up (va_up (va_up (va_up (fun _ => none) 0 (some q12)) 1 (some q15)) 2 (some q18)) 3 (some q21))))))), (q12, .inr (1, [.ref q13, .ref q14, .int 1])), (q13, .inl (cI, 24, .inl (fun _ => 0))), (q14, .inl (cI, 24, .inl (fun _ => 0))), (q15, .inr (1, [.ref q16, .ref q17, .int 1])), (q16, .inl (cI, 24, .inl (fun _ => 0))), (q17, .inl (cI, 24, .inl (fun _ => 0))), (q18, .inr (1, [.ref q19, .ref q20, .int 1])), (q19, .inl (cI, 24, .inl (fun _ => 0))), (q20, .inl (cI, 24, .inl (fun _ => 0))), (q21, .inr (1, [.ref q22, .ref q23, .int 1])), (q22, .inl (cI, 24, .inl (fun _ => 0))), (q23, .inl (cI, 24, .inl (fun _ => 0))), (q24, .inr (4, [.int 0, .int 0, .null, .null, .null, .null, .int 0, .null, .null, .null, .null, .null]))] := hD
  refine W.widen (k := 25) (n := 387) (by omega) (by omega) ?_
  refine lv_dup hx hb dL_law_11 rfl ?_
  have hPc := hP.sub (ws' := [(q24, .inr (4, [.int 0, .int 0, .null, .null, .null, .null, .int 0, .null, .null, .null, .null, .null]))]) [24] rfl
  have hDc := hD.sub (ws' := [(q24, .inr (4, [.int 0, .int 0, .null, .null, .null, .null, .int 0, .null, .null, .null, .null, .null]))]) [24] (by decide) rfl
  have hFc := va_free (wc := [(q24, .inr (4, [.int 0, .int 0, .null, .null, .null, .null, .int 0, .null, .null, .null, .null, .null]))]) hD hS hA [24] rfl
  refine va_callv (va_runI (As := []) (rest := [.ref q24]) ⟨hx, hb, hml, hown, htsL⟩ (ctX7_init l D cI cT q24 H.size) (cwI 0 htsL gL_law_X7_init rfl rfl rfl (htsL _ wm_L6) (htsL _ wm_L7) (htsL _ wm_L8) rfl (by decide +kernel) ⟨Nat.le_of_ble_eq_true rfl, Nat.le_of_ble_eq_true rfl⟩) ⟨kI_blind, fun U hU hW => ⟨rfl, by rw [hU], by rw [hU]; exact hPc, va_K.moved hW.alike hK, hDc.weaken (fun _ _ _ _ => trivial)⟩⟩ rfl rfl hl.1 rfl (lv_room (Nat.le_of_ble_eq_true rfl)) dL_law_12 ⟨Nat.le_of_ble_eq_true rfl, Nat.le_of_ble_eq_true rfl⟩) hS (fun q _ h => hFc q h) hFc (fun u t H1 locs ht hvm hw hB hz1 hk1 hS => ?_)
  obtain ⟨q25, q26, q27, q28, q29, q30, q31, q32, q33, hP1, hD1⟩ := hB
  rw [ht] at hP1
  obtain ⟨hP, hD⟩ := va_join (wr := [(q0, .inr (3, [.ref q1, .ref q11, .ref q5, .ref q10, .int 0])), (q1, .inr (2, [.ref q2, .ref q3, .ref q4, .int 0])), (q2, .inl (cI, 16, .inl (fun _ => 0))), (q3, .inl (cI, 16, .inl (fun _ => 0))), (q4, .inl (cI, 16, .inl (fun _ => 0))), (q5, .inr (0, [.ref q6, .ref q7, .ref q8, .ref q9, .int 0, .int 1, .int 0, .int 1, .int (-1)])), (q6, .inl (cI, 24, .inl (fun _ => 0))), (q7, .inl (cI, 24, .inl (fun _ => 0))), (q8, .inl (cI, 24, .inl (fun _ => 0))), (q9, .inl (cI, 24, .inl (fun _ => 0))), (q10, .inl (cI, 5, .inl (fun _ => 0))), (q11, .inl (cT, 4, .inr (.inr (.inr (.inr (va_up (va_up (va_up (va_up (fun _ => none) 0 (some q12)) 1 (some q15)) 2 (some q18)) 3 (some q21))))))), (q12, .inr (1, [.ref q13, .ref q14, .int 1])), (q13, .inl (cI, 24, .inl (fun _ => 0))), (q14, .inl (cI, 24, .inl (fun _ => 0))), (q15, .inr (1, [.ref q16, .ref q17, .int 1])), (q16, .inl (cI, 24, .inl (fun _ => 0))), (q17, .inl (cI, 24, .inl (fun _ => 0))), (q18, .inr (1, [.ref q19, .ref q20, .int 1])), (q19, .inl (cI, 24, .inl (fun _ => 0))), (q20, .inl (cI, 24, .inl (fun _ => 0))), (q21, .inr (1, [.ref q22, .ref q23, .int 1])), (q22, .inl (cI, 24, .inl (fun _ => 0))), (q23, .inl (cI, 24, .inl (fun _ => 0)))]) (w1 := [(q24, .inr (4, [.int 0, .int 0, .ref q25, .ref q26, .ref q27, .ref q28, .int 0, .ref q29, .ref q30, .ref q31, .ref q32, .ref q33])), (q25, .inl (cI, 16, .inl (fun _ => 0))), (q26, .inl (cI, 16, .inl (fun _ => 0))), (q27, .inl (cI, 16, .inl (fun _ => 0))), (q28, .inl (cI, 16, .inl (fun _ => 0))), (q29, .inl (cI, 5, .inl (fun _ => 0))), (q30, .inl (cI, 4, .inl (upd (upd (upd (upd (fun _ => 0) 0 1) 1 1) 2 1) 3 1))), (q31, .inl (cI, 96, .inl (fun _ => 0))), (q32, .inl (cI, 29, .inl (fun _ => 0))), (q33, .inl (cI, 24, .inl (fun _ => 0)))]) hP hD [24] [0, 1, 2, 3, 4, 5, 6, 7, 8, 9, 10, 11, 12, 13, 14, 15, 16, 17, 18, 19, 20, 21, 22, 23] rfl rfl (by decide) (by decide) hk1 hFc hP1 hD1
  generalize H1 = H at hP hS ⊢
  have hP : va_P D vwCl (lwW cI cT (fun k => ([q0, q1, q2, q3, q4, q5, q6, q7, q8, q9, q10, q11, q12, q13, q14, q15, q16, q17, q18, q19, q20, q21, q22, q23, q24, q25, q26, q27, q28, q29, q30, q31, q32, q33] : List Nat).getD k 0) (va_up (va_up (va_up (va_up (fun _ => none) 0 (some q12)) 1 (some q15)) 2 (some q18)) 3 (some q21)) 0 (fun _ => 0) (fun _ => 0) (fun _ => 0) 0 (fun _ => 0) (fun _ => 0) (fun _ => 0) (fun _ => 0) 0 1 0 1 (-1) (fun _ => 0) (fun _ _ => 0) (fun _ _ => 0) (fun _ => 1) 0 0 (fun _ => 0) (fun _ => 0) (fun _ => 0) (fun _ => 0) 0 (fun _ => 0) (upd (upd (upd (upd (fun _ => 0) 0 1) 1 1) 2 1) 3 1) (fun _ => 0) (fun _ => 0) (fun _ => 0)) H := hP
  have hD : va_D (fun q : Nat => s.heap.size ≤ q) [(q0, .inr (3, [.ref q1, .ref q11, .ref q5, .ref q10, .int 0])), (q1, .inr (2, [.ref q2, .ref q3, .ref q4, .int 0])), (q2, .inl (cI, 16, .inl (fun _ => 0))), (q3, .inl (cI, 16, .inl (fun _ => 0))), (q4, .inl (cI, 16, .inl (fun _ => 0))), (q5, .inr (0, [.ref q6, .ref q7, .ref q8, .ref q9, .int 0, .int 1, .int 0, .int 1, .int (-1)])), (q6, .inl (cI, 24, .inl (fun _ => 0))), (q7, .inl (cI, 24, .inl (fun _ => 0))), (q8, .inl (cI, 24, .inl (fun _ => 0))), (q9, .inl (cI, 24, .inl (fun _ => 0))), (q10, .inl (cI, 5, .inl (fun _ => 0))), (q11, .inl (cT, 4, .inr (.inr (.inr (.inr (va_up (va_up (va_up (va_up (fun _ => none) 0 (some q12)) 1 (some q15)) 2 (some q18)) 3 (some q21))))))), (q12, .inr (1, [.ref q13, .ref q14, .int 1])), (q13, .inl (cI, 24, .inl (fun _ => 0))), (q14, .inl (cI, 24, .inl (fun _ => 0))), (q15, .inr (1, [.ref q16, .ref q17, .int 1])), (q16, .inl (cI, 24, .inl (fun _ => 0))), (q17, .inl (cI, 24, .inl (fun _ => 0))), (q18, .inr (1, [.ref q19, .ref q20, .int 1])), (q19, .inl (cI, 24, .inl (fun _ => 0))), (q20, .inl (cI, 24, .inl (fun _ => 0))), (q21, .inr (1, [.ref q22, .ref q23, .int 1])), (q22, .inl (cI, 24, .inl (fun _ => 0))), (q23, .inl (cI, 24, .inl (fun _ => 0))), (q24, .inr (4, [.int 0, .int 0, .ref q25, .ref q26, .ref q27, .ref q28, .int 0, .ref q29, .ref q30, .ref q31, .ref q32, .ref q33])), (q25, .inl (cI, 16, .inl (fun _ => 0))), (q26, .inl (cI, 16, .inl (fun _ => 0))), (q27, .inl (cI, 16, .inl (fun _ => 0))), (q28, .inl (cI, 16, .inl (fun _ => 0))), (q29, .inl (cI, 5, .inl (fun _ => 0))), (q30, .inl (cI, 4, .inl (upd (upd (upd (upd (fun _ => 0) 0 1) 1 1) 2 1) 3 1))), (q31, .inl (cI, 96, .inl (fun _ => 0))), (q32, .inl (cI, 29, .inl (fun _ => 0))), (q33, .inl (cI, 24, .inl (fun _ => 0)))] := hD
  refine W.widen (k := 600000) (n := 7302249) (Nat.le_of_ble_eq_true rfl) (Nat.le_of_ble_eq_true rfl) ?_
  refine lv_astore_n (lv' := [(2, .ref q24), (1, .ref q0), (0, .ref b)]) hx hb dL_law_15 rfl hl (by decide) rfl (fun ls hl => ?_)
  refine lv_iconst (v := 0) hx hb dL_law_16 (by decide) ?_
  refine lv_istore_n (lv' := [(3, .int 0), (2, .ref q24), (1, .ref q0), (0, .ref b)]) hx hb dL_law_17 rfl hl (by decide) rfl (fun ls hl => ?_)
  have C : lwC p s m meth c b L xs D cI cT (fun k => ([q0, q1, q2, q3, q4, q5, q6, q7, q8, q9, q10, q11, q12, q13, q14, q15, q16, q17, q18, q19, q20, q21, q22, q23, q24, q25, q26, q27, q28, q29, q30, q31, q32, q33] : List Nat).getD k 0) (va_up (va_up (va_up (va_up (fun _ => none) 0 (some q12)) 1 (some q15)) 2 (some q18)) 3 (some q21)) aL := ⟨⟨hx, hb, hml, hown, htsL, hr, hlocks, rfl⟩, hX, hbl, hK, kD_nd hD, kD_in hD, fun t ht => by rcases lw_t4 ht with rfl | rfl | rfl | rfl <;> rfl, hLz, hL⟩
  exact lw_loop C (L + 6) 0 (by omega) (by omega) 0 (fun _ => 0) (fun _ => 0) (fun _ => 0) 0 (fun _ => 0) (fun _ => 0) (fun _ => 0) (fun _ => 0) 0 1 0 1 (-1) (fun _ => 0) (fun _ _ => 0) (fun _ _ => 0) (fun _ => 1) 0 0 (fun _ => 0) (fun _ => 0) (fun _ => 0) (fun _ => 0) 0 (fun _ => 0) (upd (upd (upd (upd (fun _ => 0) 0 1) 1 1) 2 1) 3 1) (fun _ => 0) (fun _ => 0) (fun _ => 0) lw_init H _ hP hS ls (lv_sub hl [3, 2, 1, 0] rfl)
