theorem kcI {D : va_G} {cI cT cA : ClassId} {s : State} (h : va_K D vwCl (kTy cI cT ++ [(cA, .int)]) s) : cA = cI := by
  have h1 : va_RA s cI .int := (h.2 0 (cI, .int) rfl).2
  have h2 : va_RA s cA .int := (h.2 2 (cA, .int) rfl).2
  exact Option.some.inj (Eq.trans (Eq.symm h2) h1)
theorem kcT {D : va_G} {cI cT cA : ClassId} {s : State} (h : va_K D vwCl (kTy cI cT ++ [(cA, .object "SixtyTablet$Tablet")]) s) : cA = cT := by
  obtain ⟨_, _, _, _, _, h1⟩ := (h.2 1 (cT, .object "SixtyTablet$Tablet") rfl).2
  obtain ⟨_, _, _, _, _, h2⟩ := (h.2 2 (cA, .object "SixtyTablet$Tablet") rfl).2
  exact Option.some.inj (Eq.trans (Eq.symm h2) h1)
theorem kI_blind {D : va_G} {cI cT : ClassId} {w : va_W} {As : List Value} {sz : Nat} : FrameBlind (va_Pc As (fun U => U.heap.size = sz ∧ va_P D vwCl w U.heap ∧ va_K D vwCl (kTy cI cT) U ∧ va_D (fun _ => True) w)) := fun a U g mk q =>
  ⟨q.1, q.2.1, q.2.2.1, va_K.moved (u := U) (U := U.calling g mk a) (Vm.Alike.refl U.vm) q.2.2.2.1, q.2.2.2.2⟩
theorem wm_X3_init_0 : Cond.methodLink RX3 3 objectInit ∈ wsX3_init := by decide +kernel
theorem wm_X3_init_1 : Cond.instanceMethod objectInit ∈ wsX3_init := by decide +kernel
theorem wm_X3_init_2 : Cond.code objectInit ⟨#[0xb1]⟩ 1 none ∈ wsX3_init := by decide +kernel
theorem wm_X3_init_3 : Cond.arrayClass .int ∈ wsX3_init := by decide +kernel
theorem wm_X3_init_4 : Cond.fieldLink RX3 9 "SixtyTablet$Tablet" "cells" "[I" ∈ wsX3_init := by decide +kernel
theorem wm_X3_init_5 : Cond.fieldLink RX3 13 "SixtyTablet$Tablet" "sixties" "[I" ∈ wsX3_init := by decide +kernel
theorem wm_X3_init_6 : Cond.fieldLink RX3 16 "SixtyTablet$Tablet" "rows" "I" ∈ wsX3_init := by decide +kernel
theorem wi_X3_init_X3 : ∀ w ∈ wsX30, w ∈ wsX3_init := by decide +kernel
abbrev rmX3_init : Room := { frames := 1, cells := 2, slots := 48, locals := 12 }
set_option maxHeartbeats 8000000 in
set_option maxRecDepth 100000 in
theorem ctX3_init (l : Launch) (D : va_G) (cI cT : ClassId) (h0 sz : Nat) : Met l yX3_init wsX3_init rmX3_init (va_Pc [.ref h0] (fun U => U.heap.size = sz ∧ va_P D vwCl [(h0, .inr (1, [.null, .null, .int 0]))] U.heap ∧ va_K D vwCl (kTy cI cT) U ∧ va_D (fun _ => True) [(h0, .inr (1, [.null, .null, .int 0]))])) (va_Qv (fun _ : Unit => True) (fun _ t => ∃ q1 q2 : Nat, va_P D vwCl [(h0, .inr (1, [.ref q1, .ref q2, .int 1])), (q1, .inl (cI, 24, .inl (fun _ => 0))), (q2, .inl (cI, 24, .inl (fun _ => 0)))] t.heap ∧ va_D (va_A [(h0, .inr (1, [.null, .null, .int 0]))] sz) [(h0, .inr (1, [.ref q1, .ref q2, .int 1])), (q1, .inl (cI, 24, .inl (fun _ => 0))), (q2, .inl (cI, 24, .inl (fun _ => 0)))]) (va_A [(h0, .inr (1, [.null, .null, .int 0]))] sz)) 2 48 (va_A [(h0, .inr (1, [.null, .null, .int 0]))] sz) := by
  refine km (by decide) rfl (Nat.le_of_ble_eq_true rfl) (fun p e s m below meth c ls C hB hl => ?_)
  obtain ⟨hx, hb, hml, hown, hts, hr, hlk, hin⟩ := C
  obtain ⟨hsz, hP, hK, hD0⟩ := hB
  subst hsz
  have hD := hD0.self (sz := s.heap.size)
  generalize hAe : va_A [(h0, .inr (1, [.null, .null, .int 0]))] s.heap.size = A at hD ⊢
  have hA : ∀ q : Nat, s.heap.size ≤ q → A q := fun q h => by rw [← hAe]; exact Or.inr h
  have hS : va_S A s.heap s.heap [] := va_S.rf
  have hl : lv_has ls 1 [(0, .ref h0)] := hl
  refine lv_aload_n hx hb dX3_init_0 rfl (lv_at hl 0 rfl) ?_
  refine W.objInit hx hb hown (hts _ wm_X3_init_0) (hts _ wm_X3_init_1) (hts _ wm_X3_init_2) rfl (by rw [hml]; exact hl.1) rfl dX3_init_1 (Nat.le_of_ble_eq_true rfl) (Nat.le_of_ble_eq_true rfl) ?_
  refine W.eq (g2 := F0 m 4 ls []) rfl ?_
  refine lv_aload_n hx hb dX3_init_4 rfl (lv_at hl 0 rfl) ?_
  refine lv_bipush (v := 24) hx hb dX3_init_5 (by decide) ?_
  refine va_newa (atype := .int) (ty := .int) (a0 := (24, .inl (fun _ => 0))) hx hb (hts _ wm_X3_init_3) rfl hK hP hD hS hA (fun _ => rfl) (by decide) (by decide) (by decide) (Nat.le_of_ble_eq_true rfl) (Nat.le_of_ble_eq_true rfl) dX3_init_7 (fun q1 cA H hK1 hP hD hS => ?_)
  have eA := kcI hK1
  rw [eA] at hP hD
  clear hK1 eA
  have hP : va_P D vwCl [(h0, .inr (1, [.null, .null, .int 0])), (q1, .inl (cI, 24, .inl (fun _ => 0)))] H := hP
  have hD : va_D A [(h0, .inr (1, [.null, .null, .int 0])), (q1, .inl (cI, 24, .inl (fun _ => 0)))] := hD
  refine W.widen (k := 1) (n := 24) (by omega) (by omega) ?_
  refine va_putF (D := D) (ci := 1) (v := .ref q1) (ty := .array .int) (C := RX3) (T := TX3) (N := 3) hx hb hts wi_X3_init_X3 tyX3 tyX3_ok nmX3 hown hK hP hD hS 0 rfl rfl 0 (by decide) (hts _ wm_X3_init_4) (fun _ h9 => h9) rfl hin rfl (by decide +kernel) rfl rfl (Nat.le_of_ble_eq_true rfl) dX3_init_9 (fun H locs hP hD hS => ?_)
  have hP : va_P D vwCl [(h0, .inr (1, [.ref q1, .null, .int 0])), (q1, .inl (cI, 24, .inl (fun _ => 0)))] H := hP
  have hD : va_D A [(h0, .inr (1, [.ref q1, .null, .int 0])), (q1, .inl (cI, 24, .inl (fun _ => 0)))] := hD
  refine lv_aload_n hx hb dX3_init_12 rfl (lv_at hl 0 rfl) ?_
  refine lv_bipush (v := 24) hx hb dX3_init_13 (by decide) ?_
  refine va_newa (atype := .int) (ty := .int) (a0 := (24, .inl (fun _ => 0))) hx hb (hts _ wm_X3_init_3) rfl hK hP hD hS hA (fun _ => rfl) (by decide) (by decide) (by decide) (Nat.le_of_ble_eq_true rfl) (Nat.le_of_ble_eq_true rfl) dX3_init_15 (fun q2 cA H hK1 hP hD hS => ?_)
  have eA := kcI hK1
  rw [eA] at hP hD
  clear hK1 eA
  have hP : va_P D vwCl [(h0, .inr (1, [.ref q1, .null, .int 0])), (q1, .inl (cI, 24, .inl (fun _ => 0))), (q2, .inl (cI, 24, .inl (fun _ => 0)))] H := hP
  have hD : va_D A [(h0, .inr (1, [.ref q1, .null, .int 0])), (q1, .inl (cI, 24, .inl (fun _ => 0))), (q2, .inl (cI, 24, .inl (fun _ => 0)))] := hD
  refine W.widen (k := 2) (n := 48) (by omega) (by omega) ?_
  refine va_putF (D := D) (ci := 1) (v := .ref q2) (ty := .array .int) (C := RX3) (T := TX3) (N := 3) hx hb hts wi_X3_init_X3 tyX3 tyX3_ok nmX3 hown hK hP hD hS 0 rfl rfl 1 (by decide) (hts _ wm_X3_init_5) (fun _ h9 => h9) rfl hin rfl (by decide +kernel) rfl rfl (Nat.le_of_ble_eq_true rfl) dX3_init_17 (fun H locs hP hD hS => ?_)
  have hP : va_P D vwCl [(h0, .inr (1, [.ref q1, .ref q2, .int 0])), (q1, .inl (cI, 24, .inl (fun _ => 0))), (q2, .inl (cI, 24, .inl (fun _ => 0)))] H := hP
  have hD : va_D A [(h0, .inr (1, [.ref q1, .ref q2, .int 0])), (q1, .inl (cI, 24, .inl (fun _ => 0))), (q2, .inl (cI, 24, .inl (fun _ => 0)))] := hD
  refine lv_aload_n hx hb dX3_init_20 rfl (lv_at hl 0 rfl) ?_
  refine lv_iconst (v := 1) hx hb dX3_init_21 (by decide) ?_
  refine va_put (D := D) (ci := 1) (v := .int 1) (ty := .int) (C := RX3) (T := TX3) (N := 3) hx hb hts wi_X3_init_X3 tyX3 tyX3_ok nmX3 hown hK hP hD hS 0 rfl rfl 2 (by decide) (hts _ wm_X3_init_6) (fun _ h9 => h9) rfl (by decide +kernel) rfl rfl (Nat.le_of_ble_eq_true rfl) dX3_init_22 (fun H locs hP hD hS => ?_)
  have hP : va_P D vwCl [(h0, .inr (1, [.ref q1, .ref q2, .int 1])), (q1, .inl (cI, 24, .inl (fun _ => 0))), (q2, .inl (cI, 24, .inl (fun _ => 0)))] H := hP
  have hD : va_D A [(h0, .inr (1, [.ref q1, .ref q2, .int 1])), (q1, .inl (cI, 24, .inl (fun _ => 0))), (q2, .inl (cI, 24, .inl (fun _ => 0)))] := hD
  exact W.vret hx hb hr (fun t ht hW => ⟨⟨(), rfl, trivial, q1, q2, by rw [ht]; exact hP, hD⟩, hS.F ht⟩) hS.2.2 dX3_init_25 (hlocks := hlk)
theorem wm_X5_init_0 : Cond.methodLink RX5 3 objectInit ∈ wsX5_init := by decide +kernel
theorem wm_X5_init_1 : Cond.instanceMethod objectInit ∈ wsX5_init := by decide +kernel
theorem wm_X5_init_2 : Cond.code objectInit ⟨#[0xb1]⟩ 1 none ∈ wsX5_init := by decide +kernel
theorem wm_X5_init_3 : Cond.arrayClass .int ∈ wsX5_init := by decide +kernel
theorem wm_X5_init_4 : Cond.fieldLink RX5 9 "SixtyTablet$Working" "ofX" "[I" ∈ wsX5_init := by decide +kernel
theorem wm_X5_init_5 : Cond.fieldLink RX5 13 "SixtyTablet$Working" "ofY" "[I" ∈ wsX5_init := by decide +kernel
theorem wm_X5_init_6 : Cond.fieldLink RX5 16 "SixtyTablet$Working" "places" "[I" ∈ wsX5_init := by decide +kernel
theorem wm_X5_init_7 : Cond.fieldLink RX5 19 "SixtyTablet$Working" "lines" "I" ∈ wsX5_init := by decide +kernel
theorem wi_X5_init_X5 : ∀ w ∈ wsX50, w ∈ wsX5_init := by decide +kernel
abbrev rmX5_init : Room := { frames := 1, cells := 3, slots := 48, locals := 12 }
set_option maxHeartbeats 8000000 in
set_option maxRecDepth 100000 in
theorem ctX5_init (l : Launch) (D : va_G) (cI cT : ClassId) (h0 sz : Nat) : Met l yX5_init wsX5_init rmX5_init (va_Pc [.ref h0] (fun U => U.heap.size = sz ∧ va_P D vwCl [(h0, .inr (2, [.null, .null, .null, .int 0]))] U.heap ∧ va_K D vwCl (kTy cI cT) U ∧ va_D (fun _ => True) [(h0, .inr (2, [.null, .null, .null, .int 0]))])) (va_Qv (fun _ : Unit => True) (fun _ t => ∃ q1 q2 q3 : Nat, va_P D vwCl [(h0, .inr (2, [.ref q1, .ref q2, .ref q3, .int 0])), (q1, .inl (cI, 16, .inl (fun _ => 0))), (q2, .inl (cI, 16, .inl (fun _ => 0))), (q3, .inl (cI, 16, .inl (fun _ => 0)))] t.heap ∧ va_D (va_A [(h0, .inr (2, [.null, .null, .null, .int 0]))] sz) [(h0, .inr (2, [.ref q1, .ref q2, .ref q3, .int 0])), (q1, .inl (cI, 16, .inl (fun _ => 0))), (q2, .inl (cI, 16, .inl (fun _ => 0))), (q3, .inl (cI, 16, .inl (fun _ => 0)))]) (va_A [(h0, .inr (2, [.null, .null, .null, .int 0]))] sz)) 3 48 (va_A [(h0, .inr (2, [.null, .null, .null, .int 0]))] sz) := by
  refine km (by decide) rfl (Nat.le_of_ble_eq_true rfl) (fun p e s m below meth c ls C hB hl => ?_)
  obtain ⟨hx, hb, hml, hown, hts, hr, hlk, hin⟩ := C
  obtain ⟨hsz, hP, hK, hD0⟩ := hB
  subst hsz
  have hD := hD0.self (sz := s.heap.size)
  generalize hAe : va_A [(h0, .inr (2, [.null, .null, .null, .int 0]))] s.heap.size = A at hD ⊢
  have hA : ∀ q : Nat, s.heap.size ≤ q → A q := fun q h => by rw [← hAe]; exact Or.inr h
  have hS : va_S A s.heap s.heap [] := va_S.rf
  have hl : lv_has ls 1 [(0, .ref h0)] := hl
  refine lv_aload_n hx hb dX5_init_0 rfl (lv_at hl 0 rfl) ?_
  refine W.objInit hx hb hown (hts _ wm_X5_init_0) (hts _ wm_X5_init_1) (hts _ wm_X5_init_2) rfl (by rw [hml]; exact hl.1) rfl dX5_init_1 (Nat.le_of_ble_eq_true rfl) (Nat.le_of_ble_eq_true rfl) ?_
  refine W.eq (g2 := F0 m 4 ls []) rfl ?_
  refine lv_aload_n hx hb dX5_init_4 rfl (lv_at hl 0 rfl) ?_
  refine lv_bipush (v := 16) hx hb dX5_init_5 (by decide) ?_
  refine va_newa (atype := .int) (ty := .int) (a0 := (16, .inl (fun _ => 0))) hx hb (hts _ wm_X5_init_3) rfl hK hP hD hS hA (fun _ => rfl) (by decide) (by decide) (by decide) (Nat.le_of_ble_eq_true rfl) (Nat.le_of_ble_eq_true rfl) dX5_init_7 (fun q1 cA H hK1 hP hD hS => ?_)
  have eA := kcI hK1
  rw [eA] at hP hD
  clear hK1 eA
  have hP : va_P D vwCl [(h0, .inr (2, [.null, .null, .null, .int 0])), (q1, .inl (cI, 16, .inl (fun _ => 0)))] H := hP
  have hD : va_D A [(h0, .inr (2, [.null, .null, .null, .int 0])), (q1, .inl (cI, 16, .inl (fun _ => 0)))] := hD
  refine W.widen (k := 1) (n := 16) (by omega) (by omega) ?_
  refine va_putF (D := D) (ci := 2) (v := .ref q1) (ty := .array .int) (C := RX5) (T := TX5) (N := 4) hx hb hts wi_X5_init_X5 tyX5 tyX5_ok nmX5 hown hK hP hD hS 0 rfl rfl 0 (by decide) (hts _ wm_X5_init_4) (fun _ h9 => h9) rfl hin rfl (by decide +kernel) rfl rfl (Nat.le_of_ble_eq_true rfl) dX5_init_9 (fun H locs hP hD hS => ?_)
  have hP : va_P D vwCl [(h0, .inr (2, [.ref q1, .null, .null, .int 0])), (q1, .inl (cI, 16, .inl (fun _ => 0)))] H := hP
  have hD : va_D A [(h0, .inr (2, [.ref q1, .null, .null, .int 0])), (q1, .inl (cI, 16, .inl (fun _ => 0)))] := hD
  refine lv_aload_n hx hb dX5_init_12 rfl (lv_at hl 0 rfl) ?_
  refine lv_bipush (v := 16) hx hb dX5_init_13 (by decide) ?_
  refine va_newa (atype := .int) (ty := .int) (a0 := (16, .inl (fun _ => 0))) hx hb (hts _ wm_X5_init_3) rfl hK hP hD hS hA (fun _ => rfl) (by decide) (by decide) (by decide) (Nat.le_of_ble_eq_true rfl) (Nat.le_of_ble_eq_true rfl) dX5_init_15 (fun q2 cA H hK1 hP hD hS => ?_)
  have eA := kcI hK1
  rw [eA] at hP hD
  clear hK1 eA
  have hP : va_P D vwCl [(h0, .inr (2, [.ref q1, .null, .null, .int 0])), (q1, .inl (cI, 16, .inl (fun _ => 0))), (q2, .inl (cI, 16, .inl (fun _ => 0)))] H := hP
  have hD : va_D A [(h0, .inr (2, [.ref q1, .null, .null, .int 0])), (q1, .inl (cI, 16, .inl (fun _ => 0))), (q2, .inl (cI, 16, .inl (fun _ => 0)))] := hD
  refine W.widen (k := 2) (n := 32) (by omega) (by omega) ?_
  refine va_putF (D := D) (ci := 2) (v := .ref q2) (ty := .array .int) (C := RX5) (T := TX5) (N := 4) hx hb hts wi_X5_init_X5 tyX5 tyX5_ok nmX5 hown hK hP hD hS 0 rfl rfl 1 (by decide) (hts _ wm_X5_init_5) (fun _ h9 => h9) rfl hin rfl (by decide +kernel) rfl rfl (Nat.le_of_ble_eq_true rfl) dX5_init_17 (fun H locs hP hD hS => ?_)
  have hP : va_P D vwCl [(h0, .inr (2, [.ref q1, .ref q2, .null, .int 0])), (q1, .inl (cI, 16, .inl (fun _ => 0))), (q2, .inl (cI, 16, .inl (fun _ => 0)))] H := hP
  have hD : va_D A [(h0, .inr (2, [.ref q1, .ref q2, .null, .int 0])), (q1, .inl (cI, 16, .inl (fun _ => 0))), (q2, .inl (cI, 16, .inl (fun _ => 0)))] := hD
  refine lv_aload_n hx hb dX5_init_20 rfl (lv_at hl 0 rfl) ?_
  refine lv_bipush (v := 16) hx hb dX5_init_21 (by decide) ?_
  refine va_newa (atype := .int) (ty := .int) (a0 := (16, .inl (fun _ => 0))) hx hb (hts _ wm_X5_init_3) rfl hK hP hD hS hA (fun _ => rfl) (by decide) (by decide) (by decide) (Nat.le_of_ble_eq_true rfl) (Nat.le_of_ble_eq_true rfl) dX5_init_23 (fun q3 cA H hK1 hP hD hS => ?_)
  have eA := kcI hK1
  rw [eA] at hP hD
  clear hK1 eA
  have hP : va_P D vwCl [(h0, .inr (2, [.ref q1, .ref q2, .null, .int 0])), (q1, .inl (cI, 16, .inl (fun _ => 0))), (q2, .inl (cI, 16, .inl (fun _ => 0))), (q3, .inl (cI, 16, .inl (fun _ => 0)))] H := hP
  have hD : va_D A [(h0, .inr (2, [.ref q1, .ref q2, .null, .int 0])), (q1, .inl (cI, 16, .inl (fun _ => 0))), (q2, .inl (cI, 16, .inl (fun _ => 0))), (q3, .inl (cI, 16, .inl (fun _ => 0)))] := hD
  refine W.widen (k := 3) (n := 48) (by omega) (by omega) ?_
  refine va_putF (D := D) (ci := 2) (v := .ref q3) (ty := .array .int) (C := RX5) (T := TX5) (N := 4) hx hb hts wi_X5_init_X5 tyX5 tyX5_ok nmX5 hown hK hP hD hS 0 rfl rfl 2 (by decide) (hts _ wm_X5_init_6) (fun _ h9 => h9) rfl hin rfl (by decide +kernel) rfl rfl (Nat.le_of_ble_eq_true rfl) dX5_init_25 (fun H locs hP hD hS => ?_)
  have hP : va_P D vwCl [(h0, .inr (2, [.ref q1, .ref q2, .ref q3, .int 0])), (q1, .inl (cI, 16, .inl (fun _ => 0))), (q2, .inl (cI, 16, .inl (fun _ => 0))), (q3, .inl (cI, 16, .inl (fun _ => 0)))] H := hP
  have hD : va_D A [(h0, .inr (2, [.ref q1, .ref q2, .ref q3, .int 0])), (q1, .inl (cI, 16, .inl (fun _ => 0))), (q2, .inl (cI, 16, .inl (fun _ => 0))), (q3, .inl (cI, 16, .inl (fun _ => 0)))] := hD
  refine lv_aload_n hx hb dX5_init_28 rfl (lv_at hl 0 rfl) ?_
  refine lv_iconst (v := 0) hx hb dX5_init_29 (by decide) ?_
  refine va_put (D := D) (ci := 2) (v := .int 0) (ty := .int) (C := RX5) (T := TX5) (N := 4) hx hb hts wi_X5_init_X5 tyX5 tyX5_ok nmX5 hown hK hP hD hS 0 rfl rfl 3 (by decide) (hts _ wm_X5_init_7) (fun _ h9 => h9) rfl (by decide +kernel) rfl rfl (Nat.le_of_ble_eq_true rfl) dX5_init_30 (fun H locs hP hD hS => ?_)
  have hP : va_P D vwCl [(h0, .inr (2, [.ref q1, .ref q2, .ref q3, .int 0])), (q1, .inl (cI, 16, .inl (fun _ => 0))), (q2, .inl (cI, 16, .inl (fun _ => 0))), (q3, .inl (cI, 16, .inl (fun _ => 0)))] H := hP
  have hD : va_D A [(h0, .inr (2, [.ref q1, .ref q2, .ref q3, .int 0])), (q1, .inl (cI, 16, .inl (fun _ => 0))), (q2, .inl (cI, 16, .inl (fun _ => 0))), (q3, .inl (cI, 16, .inl (fun _ => 0)))] := hD
  exact W.vret hx hb hr (fun t ht hW => ⟨⟨(), rfl, trivial, q1, q2, q3, by rw [ht]; exact hP, hD⟩, hS.F ht⟩) hS.2.2 dX5_init_33 (hlocks := hlk)
theorem wm_X0_init_0 : Cond.methodLink RX0 1 objectInit ∈ wsX0_init := by decide +kernel
theorem wm_X0_init_1 : Cond.instanceMethod objectInit ∈ wsX0_init := by decide +kernel
theorem wm_X0_init_2 : Cond.code objectInit ⟨#[0xb1]⟩ 1 none ∈ wsX0_init := by decide +kernel
theorem wm_X0_init_3 : Cond.arrayClass .int ∈ wsX0_init := by decide +kernel
theorem wm_X0_init_4 : Cond.fieldLink RX0 9 "SixtyTablet$Search" "heldRows" "[I" ∈ wsX0_init := by decide +kernel
theorem wm_X0_init_5 : Cond.fieldLink RX0 15 "SixtyTablet$Search" "heldColumns" "[I" ∈ wsX0_init := by decide +kernel
theorem wm_X0_init_6 : Cond.fieldLink RX0 18 "SixtyTablet$Search" "heldSixties" "[I" ∈ wsX0_init := by decide +kernel
theorem wm_X0_init_7 : Cond.fieldLink RX0 21 "SixtyTablet$Search" "certain" "[I" ∈ wsX0_init := by decide +kernel
theorem wm_X0_init_8 : Cond.fieldLink RX0 24 "SixtyTablet$Search" "heldCount" "I" ∈ wsX0_init := by decide +kernel
theorem wm_X0_init_9 : Cond.fieldLink RX0 28 "SixtyTablet$Search" "rows" "I" ∈ wsX0_init := by decide +kernel
theorem wm_X0_init_10 : Cond.fieldLink RX0 33 "SixtyTablet$Search" "kind" "I" ∈ wsX0_init := by decide +kernel
theorem wm_X0_init_11 : Cond.fieldLink RX0 36 "SixtyTablet$Search" "n" "I" ∈ wsX0_init := by decide +kernel
theorem wm_X0_init_12 : Cond.fieldLink RX0 39 "SixtyTablet$Search" "first" "I" ∈ wsX0_init := by decide +kernel
theorem wi_X0_init_X0 : ∀ w ∈ wsX00, w ∈ wsX0_init := by decide +kernel
abbrev rmX0_init : Room := { frames := 1, cells := 4, slots := 96, locals := 12 }
set_option maxHeartbeats 8000000 in
set_option maxRecDepth 100000 in
theorem ctX0_init (l : Launch) (D : va_G) (cI cT : ClassId) (h0 sz : Nat) : Met l yX0_init wsX0_init rmX0_init (va_Pc [.ref h0] (fun U => U.heap.size = sz ∧ va_P D vwCl [(h0, .inr (0, [.null, .null, .null, .null, .int 0, .int 0, .int 0, .int 0, .int 0]))] U.heap ∧ va_K D vwCl (kTy cI cT) U ∧ va_D (fun _ => True) [(h0, .inr (0, [.null, .null, .null, .null, .int 0, .int 0, .int 0, .int 0, .int 0]))])) (va_Qv (fun _ : Unit => True) (fun _ t => ∃ q1 q2 q3 q4 : Nat, va_P D vwCl [(h0, .inr (0, [.ref q1, .ref q2, .ref q3, .ref q4, .int 0, .int 1, .int 0, .int 1, .int (-1)])), (q1, .inl (cI, 24, .inl (fun _ => 0))), (q2, .inl (cI, 24, .inl (fun _ => 0))), (q3, .inl (cI, 24, .inl (fun _ => 0))), (q4, .inl (cI, 24, .inl (fun _ => 0)))] t.heap ∧ va_D (va_A [(h0, .inr (0, [.null, .null, .null, .null, .int 0, .int 0, .int 0, .int 0, .int 0]))] sz) [(h0, .inr (0, [.ref q1, .ref q2, .ref q3, .ref q4, .int 0, .int 1, .int 0, .int 1, .int (-1)])), (q1, .inl (cI, 24, .inl (fun _ => 0))), (q2, .inl (cI, 24, .inl (fun _ => 0))), (q3, .inl (cI, 24, .inl (fun _ => 0))), (q4, .inl (cI, 24, .inl (fun _ => 0)))]) (va_A [(h0, .inr (0, [.null, .null, .null, .null, .int 0, .int 0, .int 0, .int 0, .int 0]))] sz)) 4 96 (va_A [(h0, .inr (0, [.null, .null, .null, .null, .int 0, .int 0, .int 0, .int 0, .int 0]))] sz) := by
  refine km (by decide) rfl (Nat.le_of_ble_eq_true rfl) (fun p e s m below meth c ls C hB hl => ?_)
  obtain ⟨hx, hb, hml, hown, hts, hr, hlk, hin⟩ := C
  obtain ⟨hsz, hP, hK, hD0⟩ := hB
  subst hsz
  have hD := hD0.self (sz := s.heap.size)
  generalize hAe : va_A [(h0, .inr (0, [.null, .null, .null, .null, .int 0, .int 0, .int 0, .int 0, .int 0]))] s.heap.size = A at hD ⊢
  have hA : ∀ q : Nat, s.heap.size ≤ q → A q := fun q h => by rw [← hAe]; exact Or.inr h
  have hS : va_S A s.heap s.heap [] := va_S.rf
  have hl : lv_has ls 1 [(0, .ref h0)] := hl
  refine lv_aload_n hx hb dX0_init_0 rfl (lv_at hl 0 rfl) ?_
  refine W.objInit hx hb hown (hts _ wm_X0_init_0) (hts _ wm_X0_init_1) (hts _ wm_X0_init_2) rfl (by rw [hml]; exact hl.1) rfl dX0_init_1 (Nat.le_of_ble_eq_true rfl) (Nat.le_of_ble_eq_true rfl) ?_
  refine W.eq (g2 := F0 m 4 ls []) rfl ?_
  refine lv_aload_n hx hb dX0_init_4 rfl (lv_at hl 0 rfl) ?_
  refine lv_bipush (v := 24) hx hb dX0_init_5 (by decide) ?_
  refine va_newa (atype := .int) (ty := .int) (a0 := (24, .inl (fun _ => 0))) hx hb (hts _ wm_X0_init_3) rfl hK hP hD hS hA (fun _ => rfl) (by decide) (by decide) (by decide) (Nat.le_of_ble_eq_true rfl) (Nat.le_of_ble_eq_true rfl) dX0_init_7 (fun q1 cA H hK1 hP hD hS => ?_)
  have eA := kcI hK1
  rw [eA] at hP hD
  clear hK1 eA
  have hP : va_P D vwCl [(h0, .inr (0, [.null, .null, .null, .null, .int 0, .int 0, .int 0, .int 0, .int 0])), (q1, .inl (cI, 24, .inl (fun _ => 0)))] H := hP
  have hD : va_D A [(h0, .inr (0, [.null, .null, .null, .null, .int 0, .int 0, .int 0, .int 0, .int 0])), (q1, .inl (cI, 24, .inl (fun _ => 0)))] := hD
  refine W.widen (k := 1) (n := 24) (by omega) (by omega) ?_
  refine va_putF (D := D) (ci := 0) (v := .ref q1) (ty := .array .int) (C := RX0) (T := TX0) (N := 9) hx hb hts wi_X0_init_X0 tyX0 tyX0_ok nmX0 hown hK hP hD hS 0 rfl rfl 0 (by decide) (hts _ wm_X0_init_4) (fun _ h9 => h9) rfl hin rfl (by decide +kernel) rfl rfl (Nat.le_of_ble_eq_true rfl) dX0_init_9 (fun H locs hP hD hS => ?_)
  have hP : va_P D vwCl [(h0, .inr (0, [.ref q1, .null, .null, .null, .int 0, .int 0, .int 0, .int 0, .int 0])), (q1, .inl (cI, 24, .inl (fun _ => 0)))] H := hP
  have hD : va_D A [(h0, .inr (0, [.ref q1, .null, .null, .null, .int 0, .int 0, .int 0, .int 0, .int 0])), (q1, .inl (cI, 24, .inl (fun _ => 0)))] := hD
  refine lv_aload_n hx hb dX0_init_12 rfl (lv_at hl 0 rfl) ?_
  refine lv_bipush (v := 24) hx hb dX0_init_13 (by decide) ?_
  refine va_newa (atype := .int) (ty := .int) (a0 := (24, .inl (fun _ => 0))) hx hb (hts _ wm_X0_init_3) rfl hK hP hD hS hA (fun _ => rfl) (by decide) (by decide) (by decide) (Nat.le_of_ble_eq_true rfl) (Nat.le_of_ble_eq_true rfl) dX0_init_15 (fun q2 cA H hK1 hP hD hS => ?_)
  have eA := kcI hK1
  rw [eA] at hP hD
  clear hK1 eA
  have hP : va_P D vwCl [(h0, .inr (0, [.ref q1, .null, .null, .null, .int 0, .int 0, .int 0, .int 0, .int 0])), (q1, .inl (cI, 24, .inl (fun _ => 0))), (q2, .inl (cI, 24, .inl (fun _ => 0)))] H := hP
  have hD : va_D A [(h0, .inr (0, [.ref q1, .null, .null, .null, .int 0, .int 0, .int 0, .int 0, .int 0])), (q1, .inl (cI, 24, .inl (fun _ => 0))), (q2, .inl (cI, 24, .inl (fun _ => 0)))] := hD
  refine W.widen (k := 2) (n := 48) (by omega) (by omega) ?_
  refine va_putF (D := D) (ci := 0) (v := .ref q2) (ty := .array .int) (C := RX0) (T := TX0) (N := 9) hx hb hts wi_X0_init_X0 tyX0 tyX0_ok nmX0 hown hK hP hD hS 0 rfl rfl 1 (by decide) (hts _ wm_X0_init_5) (fun _ h9 => h9) rfl hin rfl (by decide +kernel) rfl rfl (Nat.le_of_ble_eq_true rfl) dX0_init_17 (fun H locs hP hD hS => ?_)
  have hP : va_P D vwCl [(h0, .inr (0, [.ref q1, .ref q2, .null, .null, .int 0, .int 0, .int 0, .int 0, .int 0])), (q1, .inl (cI, 24, .inl (fun _ => 0))), (q2, .inl (cI, 24, .inl (fun _ => 0)))] H := hP
  have hD : va_D A [(h0, .inr (0, [.ref q1, .ref q2, .null, .null, .int 0, .int 0, .int 0, .int 0, .int 0])), (q1, .inl (cI, 24, .inl (fun _ => 0))), (q2, .inl (cI, 24, .inl (fun _ => 0)))] := hD
  refine lv_aload_n hx hb dX0_init_20 rfl (lv_at hl 0 rfl) ?_
  refine lv_bipush (v := 24) hx hb dX0_init_21 (by decide) ?_
  refine va_newa (atype := .int) (ty := .int) (a0 := (24, .inl (fun _ => 0))) hx hb (hts _ wm_X0_init_3) rfl hK hP hD hS hA (fun _ => rfl) (by decide) (by decide) (by decide) (Nat.le_of_ble_eq_true rfl) (Nat.le_of_ble_eq_true rfl) dX0_init_23 (fun q3 cA H hK1 hP hD hS => ?_)
  have eA := kcI hK1
  rw [eA] at hP hD
  clear hK1 eA
  have hP : va_P D vwCl [(h0, .inr (0, [.ref q1, .ref q2, .null, .null, .int 0, .int 0, .int 0, .int 0, .int 0])), (q1, .inl (cI, 24, .inl (fun _ => 0))), (q2, .inl (cI, 24, .inl (fun _ => 0))), (q3, .inl (cI, 24, .inl (fun _ => 0)))] H := hP
  have hD : va_D A [(h0, .inr (0, [.ref q1, .ref q2, .null, .null, .int 0, .int 0, .int 0, .int 0, .int 0])), (q1, .inl (cI, 24, .inl (fun _ => 0))), (q2, .inl (cI, 24, .inl (fun _ => 0))), (q3, .inl (cI, 24, .inl (fun _ => 0)))] := hD
  refine W.widen (k := 3) (n := 72) (by omega) (by omega) ?_
  refine va_putF (D := D) (ci := 0) (v := .ref q3) (ty := .array .int) (C := RX0) (T := TX0) (N := 9) hx hb hts wi_X0_init_X0 tyX0 tyX0_ok nmX0 hown hK hP hD hS 0 rfl rfl 2 (by decide) (hts _ wm_X0_init_6) (fun _ h9 => h9) rfl hin rfl (by decide +kernel) rfl rfl (Nat.le_of_ble_eq_true rfl) dX0_init_25 (fun H locs hP hD hS => ?_)
  have hP : va_P D vwCl [(h0, .inr (0, [.ref q1, .ref q2, .ref q3, .null, .int 0, .int 0, .int 0, .int 0, .int 0])), (q1, .inl (cI, 24, .inl (fun _ => 0))), (q2, .inl (cI, 24, .inl (fun _ => 0))), (q3, .inl (cI, 24, .inl (fun _ => 0)))] H := hP
  have hD : va_D A [(h0, .inr (0, [.ref q1, .ref q2, .ref q3, .null, .int 0, .int 0, .int 0, .int 0, .int 0])), (q1, .inl (cI, 24, .inl (fun _ => 0))), (q2, .inl (cI, 24, .inl (fun _ => 0))), (q3, .inl (cI, 24, .inl (fun _ => 0)))] := hD
  refine lv_aload_n hx hb dX0_init_28 rfl (lv_at hl 0 rfl) ?_
  refine lv_bipush (v := 24) hx hb dX0_init_29 (by decide) ?_
  refine va_newa (atype := .int) (ty := .int) (a0 := (24, .inl (fun _ => 0))) hx hb (hts _ wm_X0_init_3) rfl hK hP hD hS hA (fun _ => rfl) (by decide) (by decide) (by decide) (Nat.le_of_ble_eq_true rfl) (Nat.le_of_ble_eq_true rfl) dX0_init_31 (fun q4 cA H hK1 hP hD hS => ?_)
  have eA := kcI hK1
  rw [eA] at hP hD
  clear hK1 eA
  have hP : va_P D vwCl [(h0, .inr (0, [.ref q1, .ref q2, .ref q3, .null, .int 0, .int 0, .int 0, .int 0, .int 0])), (q1, .inl (cI, 24, .inl (fun _ => 0))), (q2, .inl (cI, 24, .inl (fun _ => 0))), (q3, .inl (cI, 24, .inl (fun _ => 0))), (q4, .inl (cI, 24, .inl (fun _ => 0)))] H := hP
  have hD : va_D A [(h0, .inr (0, [.ref q1, .ref q2, .ref q3, .null, .int 0, .int 0, .int 0, .int 0, .int 0])), (q1, .inl (cI, 24, .inl (fun _ => 0))), (q2, .inl (cI, 24, .inl (fun _ => 0))), (q3, .inl (cI, 24, .inl (fun _ => 0))), (q4, .inl (cI, 24, .inl (fun _ => 0)))] := hD
  refine W.widen (k := 4) (n := 96) (by omega) (by omega) ?_
  refine va_putF (D := D) (ci := 0) (v := .ref q4) (ty := .array .int) (C := RX0) (T := TX0) (N := 9) hx hb hts wi_X0_init_X0 tyX0 tyX0_ok nmX0 hown hK hP hD hS 0 rfl rfl 3 (by decide) (hts _ wm_X0_init_7) (fun _ h9 => h9) rfl hin rfl (by decide +kernel) rfl rfl (Nat.le_of_ble_eq_true rfl) dX0_init_33 (fun H locs hP hD hS => ?_)
  have hP : va_P D vwCl [(h0, .inr (0, [.ref q1, .ref q2, .ref q3, .ref q4, .int 0, .int 0, .int 0, .int 0, .int 0])), (q1, .inl (cI, 24, .inl (fun _ => 0))), (q2, .inl (cI, 24, .inl (fun _ => 0))), (q3, .inl (cI, 24, .inl (fun _ => 0))), (q4, .inl (cI, 24, .inl (fun _ => 0)))] H := hP
  have hD : va_D A [(h0, .inr (0, [.ref q1, .ref q2, .ref q3, .ref q4, .int 0, .int 0, .int 0, .int 0, .int 0])), (q1, .inl (cI, 24, .inl (fun _ => 0))), (q2, .inl (cI, 24, .inl (fun _ => 0))), (q3, .inl (cI, 24, .inl (fun _ => 0))), (q4, .inl (cI, 24, .inl (fun _ => 0)))] := hD
  refine lv_aload_n hx hb dX0_init_36 rfl (lv_at hl 0 rfl) ?_
  refine lv_iconst (v := 0) hx hb dX0_init_37 (by decide) ?_
  refine va_put (D := D) (ci := 0) (v := .int 0) (ty := .int) (C := RX0) (T := TX0) (N := 9) hx hb hts wi_X0_init_X0 tyX0 tyX0_ok nmX0 hown hK hP hD hS 0 rfl rfl 4 (by decide) (hts _ wm_X0_init_8) (fun _ h9 => h9) rfl (by decide +kernel) rfl rfl (Nat.le_of_ble_eq_true rfl) dX0_init_38 (fun H locs hP hD hS => ?_)
  have hP : va_P D vwCl [(h0, .inr (0, [.ref q1, .ref q2, .ref q3, .ref q4, .int 0, .int 0, .int 0, .int 0, .int 0])), (q1, .inl (cI, 24, .inl (fun _ => 0))), (q2, .inl (cI, 24, .inl (fun _ => 0))), (q3, .inl (cI, 24, .inl (fun _ => 0))), (q4, .inl (cI, 24, .inl (fun _ => 0)))] H := hP
  have hD : va_D A [(h0, .inr (0, [.ref q1, .ref q2, .ref q3, .ref q4, .int 0, .int 0, .int 0, .int 0, .int 0])), (q1, .inl (cI, 24, .inl (fun _ => 0))), (q2, .inl (cI, 24, .inl (fun _ => 0))), (q3, .inl (cI, 24, .inl (fun _ => 0))), (q4, .inl (cI, 24, .inl (fun _ => 0)))] := hD
  refine lv_aload_n hx hb dX0_init_41 rfl (lv_at hl 0 rfl) ?_
  refine lv_iconst (v := 1) hx hb dX0_init_42 (by decide) ?_
  refine va_put (D := D) (ci := 0) (v := .int 1) (ty := .int) (C := RX0) (T := TX0) (N := 9) hx hb hts wi_X0_init_X0 tyX0 tyX0_ok nmX0 hown hK hP hD hS 0 rfl rfl 5 (by decide) (hts _ wm_X0_init_9) (fun _ h9 => h9) rfl (by decide +kernel) rfl rfl (Nat.le_of_ble_eq_true rfl) dX0_init_43 (fun H locs hP hD hS => ?_)
  have hP : va_P D vwCl [(h0, .inr (0, [.ref q1, .ref q2, .ref q3, .ref q4, .int 0, .int 1, .int 0, .int 0, .int 0])), (q1, .inl (cI, 24, .inl (fun _ => 0))), (q2, .inl (cI, 24, .inl (fun _ => 0))), (q3, .inl (cI, 24, .inl (fun _ => 0))), (q4, .inl (cI, 24, .inl (fun _ => 0)))] H := hP
  have hD : va_D A [(h0, .inr (0, [.ref q1, .ref q2, .ref q3, .ref q4, .int 0, .int 1, .int 0, .int 0, .int 0])), (q1, .inl (cI, 24, .inl (fun _ => 0))), (q2, .inl (cI, 24, .inl (fun _ => 0))), (q3, .inl (cI, 24, .inl (fun _ => 0))), (q4, .inl (cI, 24, .inl (fun _ => 0)))] := hD
  refine lv_aload_n hx hb dX0_init_46 rfl (lv_at hl 0 rfl) ?_
  refine lv_iconst (v := 0) hx hb dX0_init_47 (by decide) ?_
  refine va_put (D := D) (ci := 0) (v := .int 0) (ty := .int) (C := RX0) (T := TX0) (N := 9) hx hb hts wi_X0_init_X0 tyX0 tyX0_ok nmX0 hown hK hP hD hS 0 rfl rfl 6 (by decide) (hts _ wm_X0_init_10) (fun _ h9 => h9) rfl (by decide +kernel) rfl rfl (Nat.le_of_ble_eq_true rfl) dX0_init_48 (fun H locs hP hD hS => ?_)
  have hP : va_P D vwCl [(h0, .inr (0, [.ref q1, .ref q2, .ref q3, .ref q4, .int 0, .int 1, .int 0, .int 0, .int 0])), (q1, .inl (cI, 24, .inl (fun _ => 0))), (q2, .inl (cI, 24, .inl (fun _ => 0))), (q3, .inl (cI, 24, .inl (fun _ => 0))), (q4, .inl (cI, 24, .inl (fun _ => 0)))] H := hP
  have hD : va_D A [(h0, .inr (0, [.ref q1, .ref q2, .ref q3, .ref q4, .int 0, .int 1, .int 0, .int 0, .int 0])), (q1, .inl (cI, 24, .inl (fun _ => 0))), (q2, .inl (cI, 24, .inl (fun _ => 0))), (q3, .inl (cI, 24, .inl (fun _ => 0))), (q4, .inl (cI, 24, .inl (fun _ => 0)))] := hD
  refine lv_aload_n hx hb dX0_init_51 rfl (lv_at hl 0 rfl) ?_
  refine lv_iconst (v := 1) hx hb dX0_init_52 (by decide) ?_
  refine va_put (D := D) (ci := 0) (v := .int 1) (ty := .int) (C := RX0) (T := TX0) (N := 9) hx hb hts wi_X0_init_X0 tyX0 tyX0_ok nmX0 hown hK hP hD hS 0 rfl rfl 7 (by decide) (hts _ wm_X0_init_11) (fun _ h9 => h9) rfl (by decide +kernel) rfl rfl (Nat.le_of_ble_eq_true rfl) dX0_init_53 (fun H locs hP hD hS => ?_)
  have hP : va_P D vwCl [(h0, .inr (0, [.ref q1, .ref q2, .ref q3, .ref q4, .int 0, .int 1, .int 0, .int 1, .int 0])), (q1, .inl (cI, 24, .inl (fun _ => 0))), (q2, .inl (cI, 24, .inl (fun _ => 0))), (q3, .inl (cI, 24, .inl (fun _ => 0))), (q4, .inl (cI, 24, .inl (fun _ => 0)))] H := hP
  have hD : va_D A [(h0, .inr (0, [.ref q1, .ref q2, .ref q3, .ref q4, .int 0, .int 1, .int 0, .int 1, .int 0])), (q1, .inl (cI, 24, .inl (fun _ => 0))), (q2, .inl (cI, 24, .inl (fun _ => 0))), (q3, .inl (cI, 24, .inl (fun _ => 0))), (q4, .inl (cI, 24, .inl (fun _ => 0)))] := hD
  refine lv_aload_n hx hb dX0_init_56 rfl (lv_at hl 0 rfl) ?_
  refine lv_iconst (v := -1) hx hb dX0_init_57 (by decide) ?_
  refine va_put (D := D) (ci := 0) (v := .int (-1)) (ty := .int) (C := RX0) (T := TX0) (N := 9) hx hb hts wi_X0_init_X0 tyX0 tyX0_ok nmX0 hown hK hP hD hS 0 rfl rfl 8 (by decide) (hts _ wm_X0_init_12) (fun _ h9 => h9) rfl (by decide +kernel) rfl rfl (Nat.le_of_ble_eq_true rfl) dX0_init_58 (fun H locs hP hD hS => ?_)
  have hP : va_P D vwCl [(h0, .inr (0, [.ref q1, .ref q2, .ref q3, .ref q4, .int 0, .int 1, .int 0, .int 1, .int (-1)])), (q1, .inl (cI, 24, .inl (fun _ => 0))), (q2, .inl (cI, 24, .inl (fun _ => 0))), (q3, .inl (cI, 24, .inl (fun _ => 0))), (q4, .inl (cI, 24, .inl (fun _ => 0)))] H := hP
  have hD : va_D A [(h0, .inr (0, [.ref q1, .ref q2, .ref q3, .ref q4, .int 0, .int 1, .int 0, .int 1, .int (-1)])), (q1, .inl (cI, 24, .inl (fun _ => 0))), (q2, .inl (cI, 24, .inl (fun _ => 0))), (q3, .inl (cI, 24, .inl (fun _ => 0))), (q4, .inl (cI, 24, .inl (fun _ => 0)))] := hD
  exact W.vret hx hb hr (fun t ht hW => ⟨⟨(), rfl, trivial, q1, q2, q3, q4, by rw [ht]; exact hP, hD⟩, hS.F ht⟩) hS.2.2 dX0_init_61 (hlocks := hlk)
theorem wm_X6_init_0 : Cond.methodLink RX6 1 objectInit ∈ wsX6_init := by decide +kernel
theorem wm_X6_init_1 : Cond.instanceMethod objectInit ∈ wsX6_init := by decide +kernel
theorem wm_X6_init_2 : Cond.code objectInit ⟨#[0xb1]⟩ 1 none ∈ wsX6_init := by decide +kernel
theorem wm_X6_init_3 : Cond.classLink RX6 7 RX5 ∈ wsX6_init := by decide +kernel
theorem wm_X6_init_4 : Cond.instantiable RX5 4 ∈ wsX6_init := by decide +kernel
theorem wm_X6_init_5 : Cond.initialized RX5 ∈ wsX6_init := by decide +kernel
theorem wm_X6_init_6 : Cond.methodLink RX6 9 yX5_init ∈ wsX6_init := by decide +kernel
theorem wm_X6_init_7 : Cond.instanceMethod yX5_init ∈ wsX6_init := by decide +kernel
theorem wm_X6_init_8 : Cond.fieldLink RX6 10 "SixtyTablet" "working" "LSixtyTablet$Working;" ∈ wsX6_init := by decide +kernel
theorem wm_X6_init_9 : Cond.classLink RX6 16 RX0 ∈ wsX6_init := by decide +kernel
theorem wm_X6_init_10 : Cond.instantiable RX0 9 ∈ wsX6_init := by decide +kernel
theorem wm_X6_init_11 : Cond.initialized RX0 ∈ wsX6_init := by decide +kernel
theorem wm_X6_init_12 : Cond.methodLink RX6 18 yX0_init ∈ wsX6_init := by decide +kernel
theorem wm_X6_init_13 : Cond.instanceMethod yX0_init ∈ wsX6_init := by decide +kernel
theorem wm_X6_init_14 : Cond.fieldLink RX6 19 "SixtyTablet" "search" "LSixtyTablet$Search;" ∈ wsX6_init := by decide +kernel
theorem wm_X6_init_15 : Cond.arrayClass .int ∈ wsX6_init := by decide +kernel
theorem wm_X6_init_16 : Cond.fieldLink RX6 23 "SixtyTablet" "steps" "[I" ∈ wsX6_init := by decide +kernel
theorem wm_X6_init_17 : Cond.fieldLink RX6 27 "SixtyTablet" "stepCount" "I" ∈ wsX6_init := by decide +kernel
theorem wm_X6_init_18 : Cond.classLink RX6 31 RX3 ∈ wsX6_init := by decide +kernel
theorem wm_X6_init_19 : Cond.fieldLink RX6 33 "SixtyTablet" "tablets" "[LSixtyTablet$Tablet;" ∈ wsX6_init := by decide +kernel
theorem wm_X6_init_20 : Cond.instantiable RX3 3 ∈ wsX6_init := by decide +kernel
theorem wm_X6_init_21 : Cond.initialized RX3 ∈ wsX6_init := by decide +kernel
theorem wm_X6_init_22 : Cond.methodLink RX6 37 yX3_init ∈ wsX6_init := by decide +kernel
theorem wm_X6_init_23 : Cond.instanceMethod yX3_init ∈ wsX6_init := by decide +kernel
theorem wi_X6_init_X0 : ∀ w ∈ wsX00, w ∈ wsX6_init := by decide +kernel
theorem wi_X6_init_X3 : ∀ w ∈ wsX30, w ∈ wsX6_init := by decide +kernel
theorem wi_X6_init_X5 : ∀ w ∈ wsX50, w ∈ wsX6_init := by decide +kernel
theorem wi_X6_init_X6 : ∀ w ∈ wsX60, w ∈ wsX6_init := by decide +kernel
abbrev rmX6_init : Room := { frames := 2, cells := 23, slots := 370, locals := 32 }
set_option maxHeartbeats 8000000 in
set_option maxRecDepth 100000 in
theorem ctX6_init (l : Launch) (D : va_G) (cI cT : ClassId) (h0 sz : Nat) : Met l yX6_init wsX6_init rmX6_init (va_Pc [.ref h0] (fun U => U.heap.size = sz ∧ va_P D vwCl [(h0, .inr (3, [.null, .null, .null, .null, .int 0]))] U.heap ∧ va_K D vwCl (kTy cI cT) U ∧ va_D (fun _ => True) [(h0, .inr (3, [.null, .null, .null, .null, .int 0]))] ∧ va_AO "SixtyTablet$Tablet" U)) (va_Qv (fun _ : Unit => True) (fun _ t => ∃ q1 q2 q3 q4 q5 q6 q7 q8 q9 q10 q11 q12 q13 q14 q15 q16 q17 q18 q19 q20 q21 q22 q23 : Nat, va_P D vwCl [(h0, .inr (3, [.ref q1, .ref q11, .ref q5, .ref q10, .int 0])), (q1, .inr (2, [.ref q2, .ref q3, .ref q4, .int 0])), (q2, .inl (cI, 16, .inl (fun _ => 0))), (q3, .inl (cI, 16, .inl (fun _ => 0))), (q4, .inl (cI, 16, .inl (fun _ => 0))), (q5, .inr (0, [.ref q6, .ref q7, .ref q8, .ref q9, .int 0, .int 1, .int 0, .int 1, .int (-1)])), (q6, .inl (cI, 24, .inl (fun _ => 0))), (q7, .inl (cI, 24, .inl (fun _ => 0))), (q8, .inl (cI, 24, .inl (fun _ => 0))), (q9, .inl (cI, 24, .inl (fun _ => 0))), (q10, .inl (cI, 5, .inl (fun _ => 0))), (q11, .inl (cT, 4, .inr (.inr (.inr (.inr (va_up (va_up (va_up (va_up (fun _ => none) 0 (some q12)) 1 (some q15)) 2 (some q18)) 3 (some q21))))))), (q12, .inr (1, [.ref q13, .ref q14, .int 1])), (q13, .inl (cI, 24, .inl (fun _ => 0))), (q14, .inl (cI, 24, .inl (fun _ => 0))), (q15, .inr (1, [.ref q16, .ref q17, .int 1])), (q16, .inl (cI, 24, .inl (fun _ => 0))), (q17, .inl (cI, 24, .inl (fun _ => 0))), (q18, .inr (1, [.ref q19, .ref q20, .int 1])), (q19, .inl (cI, 24, .inl (fun _ => 0))), (q20, .inl (cI, 24, .inl (fun _ => 0))), (q21, .inr (1, [.ref q22, .ref q23, .int 1])), (q22, .inl (cI, 24, .inl (fun _ => 0))), (q23, .inl (cI, 24, .inl (fun _ => 0)))] t.heap ∧ va_D (va_A [(h0, .inr (3, [.null, .null, .null, .null, .int 0]))] sz) [(h0, .inr (3, [.ref q1, .ref q11, .ref q5, .ref q10, .int 0])), (q1, .inr (2, [.ref q2, .ref q3, .ref q4, .int 0])), (q2, .inl (cI, 16, .inl (fun _ => 0))), (q3, .inl (cI, 16, .inl (fun _ => 0))), (q4, .inl (cI, 16, .inl (fun _ => 0))), (q5, .inr (0, [.ref q6, .ref q7, .ref q8, .ref q9, .int 0, .int 1, .int 0, .int 1, .int (-1)])), (q6, .inl (cI, 24, .inl (fun _ => 0))), (q7, .inl (cI, 24, .inl (fun _ => 0))), (q8, .inl (cI, 24, .inl (fun _ => 0))), (q9, .inl (cI, 24, .inl (fun _ => 0))), (q10, .inl (cI, 5, .inl (fun _ => 0))), (q11, .inl (cT, 4, .inr (.inr (.inr (.inr (va_up (va_up (va_up (va_up (fun _ => none) 0 (some q12)) 1 (some q15)) 2 (some q18)) 3 (some q21))))))), (q12, .inr (1, [.ref q13, .ref q14, .int 1])), (q13, .inl (cI, 24, .inl (fun _ => 0))), (q14, .inl (cI, 24, .inl (fun _ => 0))), (q15, .inr (1, [.ref q16, .ref q17, .int 1])), (q16, .inl (cI, 24, .inl (fun _ => 0))), (q17, .inl (cI, 24, .inl (fun _ => 0))), (q18, .inr (1, [.ref q19, .ref q20, .int 1])), (q19, .inl (cI, 24, .inl (fun _ => 0))), (q20, .inl (cI, 24, .inl (fun _ => 0))), (q21, .inr (1, [.ref q22, .ref q23, .int 1])), (q22, .inl (cI, 24, .inl (fun _ => 0))), (q23, .inl (cI, 24, .inl (fun _ => 0)))]) (va_A [(h0, .inr (3, [.null, .null, .null, .null, .int 0]))] sz)) 23 370 (va_A [(h0, .inr (3, [.null, .null, .null, .null, .int 0]))] sz) := by
  refine km (by decide) rfl (Nat.le_of_ble_eq_true rfl) (fun p e s m below meth c ls C hB hl => ?_)
  obtain ⟨hx, hb, hml, hown, hts, hr, hlk, hin⟩ := C
  obtain ⟨hsz, hP, hK, hD0, hAO⟩ := hB
  subst hsz
  have hD := hD0.self (sz := s.heap.size)
  generalize hAe : va_A [(h0, .inr (3, [.null, .null, .null, .null, .int 0]))] s.heap.size = A at hD ⊢
  have hA : ∀ q : Nat, s.heap.size ≤ q → A q := fun q h => by rw [← hAe]; exact Or.inr h
  have hS : va_S A s.heap s.heap [] := va_S.rf
  have hl : lv_has ls 2 [(0, .ref h0)] := hl
  refine lv_aload_n hx hb dX6_init_0 rfl (lv_at hl 0 rfl) ?_
  refine W.objInit hx hb hown (hts _ wm_X6_init_0) (hts _ wm_X6_init_1) (hts _ wm_X6_init_2) rfl (by rw [hml]; exact hl.1) rfl dX6_init_1 (Nat.le_of_ble_eq_true rfl) (Nat.le_of_ble_eq_true rfl) ?_
  refine W.eq (g2 := F0 m 4 ls []) rfl ?_
  refine lv_aload_n hx hb dX6_init_4 rfl (lv_at hl 0 rfl) ?_
  refine va_new (ci := 2) (fs := [.null, .null, .null, .int 0]) (C := RX5) (T := TX5) (N := 4) hx hb hts wi_X6_init_X5 tyX5 tyX5_ok hown (hts _ wm_X6_init_3) (hts _ wm_X6_init_4) (hts _ wm_X6_init_5) hK hP hD hS hA rfl (fun j hj => by rcases (show j = 0 ∨ j = 1 ∨ j = 2 ∨ j = 3 by omega) with rfl | rfl | rfl | rfl <;> rfl) (Nat.le_of_ble_eq_true rfl) (Nat.le_of_ble_eq_true rfl) dX6_init_5 (fun q1 H hP hD hS => ?_)
  have hP : va_P D vwCl [(h0, .inr (3, [.null, .null, .null, .null, .int 0])), (q1, .inr (2, [.null, .null, .null, .int 0]))] H := hP
  have hD : va_D A [(h0, .inr (3, [.null, .null, .null, .null, .int 0])), (q1, .inr (2, [.null, .null, .null, .int 0]))] := hD
  refine W.widen (k := 1) (n := 4) (by omega) (by omega) ?_
  refine lv_dup hx hb dX6_init_8 rfl ?_
  have hPc := hP.sub (ws' := [(q1, .inr (2, [.null, .null, .null, .int 0]))]) [1] rfl
  have hDc := hD.sub (ws' := [(q1, .inr (2, [.null, .null, .null, .int 0]))]) [1] (by decide) rfl
  have hFc := va_free (wc := [(q1, .inr (2, [.null, .null, .null, .int 0]))]) hD hS hA [1] rfl
  refine va_callv (va_runI (As := []) (rest := [.ref q1, .ref h0]) ⟨hx, hb, hml, hown, hts⟩ (ctX5_init l D cI cT q1 H.size) (cwI 0 hts gX6_init_X5_init rfl rfl rfl (hts _ wm_X6_init_5) (hts _ wm_X6_init_6) (hts _ wm_X6_init_7) rfl (by decide +kernel) ⟨Nat.le_of_ble_eq_true rfl, Nat.le_of_ble_eq_true rfl⟩) ⟨kI_blind, fun U hU hW => ⟨rfl, by rw [hU], by rw [hU]; exact hPc, va_K.moved hW.alike hK, hDc.weaken (fun _ _ _ _ => trivial)⟩⟩ rfl rfl hl.1 rfl (lv_room (Nat.le_of_ble_eq_true rfl)) dX6_init_9 ⟨Nat.le_of_ble_eq_true rfl, Nat.le_of_ble_eq_true rfl⟩) hS (fun q _ h => hFc q h) hFc (fun u t H1 locs ht hvm hw hB hz1 hk1 hS => ?_)
  obtain ⟨q2, q3, q4, hP1, hD1⟩ := hB
  rw [ht] at hP1
  obtain ⟨hP, hD⟩ := va_join (wr := [(h0, .inr (3, [.null, .null, .null, .null, .int 0]))]) (w1 := [(q1, .inr (2, [.ref q2, .ref q3, .ref q4, .int 0])), (q2, .inl (cI, 16, .inl (fun _ => 0))), (q3, .inl (cI, 16, .inl (fun _ => 0))), (q4, .inl (cI, 16, .inl (fun _ => 0)))]) hP hD [1] [0] rfl rfl (by decide) (by decide) hk1 hFc hP1 hD1
  generalize H1 = H at hP hS ⊢
  have hP : va_P D vwCl [(h0, .inr (3, [.null, .null, .null, .null, .int 0])), (q1, .inr (2, [.ref q2, .ref q3, .ref q4, .int 0])), (q2, .inl (cI, 16, .inl (fun _ => 0))), (q3, .inl (cI, 16, .inl (fun _ => 0))), (q4, .inl (cI, 16, .inl (fun _ => 0)))] H := hP
  have hD : va_D A [(h0, .inr (3, [.null, .null, .null, .null, .int 0])), (q1, .inr (2, [.ref q2, .ref q3, .ref q4, .int 0])), (q2, .inl (cI, 16, .inl (fun _ => 0))), (q3, .inl (cI, 16, .inl (fun _ => 0))), (q4, .inl (cI, 16, .inl (fun _ => 0)))] := hD
  refine W.widen (k := 4) (n := 52) (by omega) (by omega) ?_
  refine va_putF (D := D) (ci := 3) (v := .ref q1) (ty := .object "SixtyTablet$Working") (C := RX6) (T := TX6) (N := 5) hx hb hts wi_X6_init_X6 tyX6 tyX6_ok nmX6 hown hK hP hD hS 0 rfl rfl 0 (by decide) (hts _ wm_X6_init_8) (fun _ h9 => h9) rfl hin rfl (by decide +kernel) rfl rfl (Nat.le_of_ble_eq_true rfl) dX6_init_12 (fun H locs hP hD hS => ?_)
  have hP : va_P D vwCl [(h0, .inr (3, [.ref q1, .null, .null, .null, .int 0])), (q1, .inr (2, [.ref q2, .ref q3, .ref q4, .int 0])), (q2, .inl (cI, 16, .inl (fun _ => 0))), (q3, .inl (cI, 16, .inl (fun _ => 0))), (q4, .inl (cI, 16, .inl (fun _ => 0)))] H := hP
  have hD : va_D A [(h0, .inr (3, [.ref q1, .null, .null, .null, .int 0])), (q1, .inr (2, [.ref q2, .ref q3, .ref q4, .int 0])), (q2, .inl (cI, 16, .inl (fun _ => 0))), (q3, .inl (cI, 16, .inl (fun _ => 0))), (q4, .inl (cI, 16, .inl (fun _ => 0)))] := hD
  refine lv_aload_n hx hb dX6_init_15 rfl (lv_at hl 0 rfl) ?_
  refine va_new (ci := 0) (fs := [.null, .null, .null, .null, .int 0, .int 0, .int 0, .int 0, .int 0]) (C := RX0) (T := TX0) (N := 9) hx hb hts wi_X6_init_X0 tyX0 tyX0_ok hown (hts _ wm_X6_init_9) (hts _ wm_X6_init_10) (hts _ wm_X6_init_11) hK hP hD hS hA rfl (fun j hj => by rcases (show j = 0 ∨ j = 1 ∨ j = 2 ∨ j = 3 ∨ j = 4 ∨ j = 5 ∨ j = 6 ∨ j = 7 ∨ j = 8 by omega) with rfl | rfl | rfl | rfl | rfl | rfl | rfl | rfl | rfl <;> rfl) (Nat.le_of_ble_eq_true rfl) (Nat.le_of_ble_eq_true rfl) dX6_init_16 (fun q5 H hP hD hS => ?_)
  have hP : va_P D vwCl [(h0, .inr (3, [.ref q1, .null, .null, .null, .int 0])), (q1, .inr (2, [.ref q2, .ref q3, .ref q4, .int 0])), (q2, .inl (cI, 16, .inl (fun _ => 0))), (q3, .inl (cI, 16, .inl (fun _ => 0))), (q4, .inl (cI, 16, .inl (fun _ => 0))), (q5, .inr (0, [.null, .null, .null, .null, .int 0, .int 0, .int 0, .int 0, .int 0]))] H := hP
  have hD : va_D A [(h0, .inr (3, [.ref q1, .null, .null, .null, .int 0])), (q1, .inr (2, [.ref q2, .ref q3, .ref q4, .int 0])), (q2, .inl (cI, 16, .inl (fun _ => 0))), (q3, .inl (cI, 16, .inl (fun _ => 0))), (q4, .inl (cI, 16, .inl (fun _ => 0))), (q5, .inr (0, [.null, .null, .null, .null, .int 0, .int 0, .int 0, .int 0, .int 0]))] := hD
  refine W.widen (k := 5) (n := 61) (by omega) (by omega) ?_
  refine lv_dup hx hb dX6_init_19 rfl ?_
  have hPc := hP.sub (ws' := [(q5, .inr (0, [.null, .null, .null, .null, .int 0, .int 0, .int 0, .int 0, .int 0]))]) [5] rfl
  have hDc := hD.sub (ws' := [(q5, .inr (0, [.null, .null, .null, .null, .int 0, .int 0, .int 0, .int 0, .int 0]))]) [5] (by decide) rfl
  have hFc := va_free (wc := [(q5, .inr (0, [.null, .null, .null, .null, .int 0, .int 0, .int 0, .int 0, .int 0]))]) hD hS hA [5] rfl
  refine va_callv (va_runI (As := []) (rest := [.ref q5, .ref h0]) ⟨hx, hb, hml, hown, hts⟩ (ctX0_init l D cI cT q5 H.size) (cwI 0 hts gX6_init_X0_init rfl rfl rfl (hts _ wm_X6_init_11) (hts _ wm_X6_init_12) (hts _ wm_X6_init_13) rfl (by decide +kernel) ⟨Nat.le_of_ble_eq_true rfl, Nat.le_of_ble_eq_true rfl⟩) ⟨kI_blind, fun U hU hW => ⟨rfl, by rw [hU], by rw [hU]; exact hPc, va_K.moved hW.alike hK, hDc.weaken (fun _ _ _ _ => trivial)⟩⟩ rfl rfl hl.1 rfl (lv_room (Nat.le_of_ble_eq_true rfl)) dX6_init_20 ⟨Nat.le_of_ble_eq_true rfl, Nat.le_of_ble_eq_true rfl⟩) hS (fun q _ h => hFc q h) hFc (fun u t H1 locs ht hvm hw hB hz1 hk1 hS => ?_)
  obtain ⟨q6, q7, q8, q9, hP1, hD1⟩ := hB
  rw [ht] at hP1
  obtain ⟨hP, hD⟩ := va_join (wr := [(h0, .inr (3, [.ref q1, .null, .null, .null, .int 0])), (q1, .inr (2, [.ref q2, .ref q3, .ref q4, .int 0])), (q2, .inl (cI, 16, .inl (fun _ => 0))), (q3, .inl (cI, 16, .inl (fun _ => 0))), (q4, .inl (cI, 16, .inl (fun _ => 0)))]) (w1 := [(q5, .inr (0, [.ref q6, .ref q7, .ref q8, .ref q9, .int 0, .int 1, .int 0, .int 1, .int (-1)])), (q6, .inl (cI, 24, .inl (fun _ => 0))), (q7, .inl (cI, 24, .inl (fun _ => 0))), (q8, .inl (cI, 24, .inl (fun _ => 0))), (q9, .inl (cI, 24, .inl (fun _ => 0)))]) hP hD [5] [0, 1, 2, 3, 4] rfl rfl (by decide) (by decide) hk1 hFc hP1 hD1
  generalize H1 = H at hP hS ⊢
  have hP : va_P D vwCl [(h0, .inr (3, [.ref q1, .null, .null, .null, .int 0])), (q1, .inr (2, [.ref q2, .ref q3, .ref q4, .int 0])), (q2, .inl (cI, 16, .inl (fun _ => 0))), (q3, .inl (cI, 16, .inl (fun _ => 0))), (q4, .inl (cI, 16, .inl (fun _ => 0))), (q5, .inr (0, [.ref q6, .ref q7, .ref q8, .ref q9, .int 0, .int 1, .int 0, .int 1, .int (-1)])), (q6, .inl (cI, 24, .inl (fun _ => 0))), (q7, .inl (cI, 24, .inl (fun _ => 0))), (q8, .inl (cI, 24, .inl (fun _ => 0))), (q9, .inl (cI, 24, .inl (fun _ => 0)))] H := hP
  have hD : va_D A [(h0, .inr (3, [.ref q1, .null, .null, .null, .int 0])), (q1, .inr (2, [.ref q2, .ref q3, .ref q4, .int 0])), (q2, .inl (cI, 16, .inl (fun _ => 0))), (q3, .inl (cI, 16, .inl (fun _ => 0))), (q4, .inl (cI, 16, .inl (fun _ => 0))), (q5, .inr (0, [.ref q6, .ref q7, .ref q8, .ref q9, .int 0, .int 1, .int 0, .int 1, .int (-1)])), (q6, .inl (cI, 24, .inl (fun _ => 0))), (q7, .inl (cI, 24, .inl (fun _ => 0))), (q8, .inl (cI, 24, .inl (fun _ => 0))), (q9, .inl (cI, 24, .inl (fun _ => 0)))] := hD
  refine W.widen (k := 9) (n := 157) (by omega) (by omega) ?_
  refine va_putF (D := D) (ci := 3) (v := .ref q5) (ty := .object "SixtyTablet$Search") (C := RX6) (T := TX6) (N := 5) hx hb hts wi_X6_init_X6 tyX6 tyX6_ok nmX6 hown hK hP hD hS 0 rfl rfl 2 (by decide) (hts _ wm_X6_init_14) (fun _ h9 => h9) rfl hin rfl (by decide +kernel) rfl rfl (Nat.le_of_ble_eq_true rfl) dX6_init_23 (fun H locs hP hD hS => ?_)
  have hP : va_P D vwCl [(h0, .inr (3, [.ref q1, .null, .ref q5, .null, .int 0])), (q1, .inr (2, [.ref q2, .ref q3, .ref q4, .int 0])), (q2, .inl (cI, 16, .inl (fun _ => 0))), (q3, .inl (cI, 16, .inl (fun _ => 0))), (q4, .inl (cI, 16, .inl (fun _ => 0))), (q5, .inr (0, [.ref q6, .ref q7, .ref q8, .ref q9, .int 0, .int 1, .int 0, .int 1, .int (-1)])), (q6, .inl (cI, 24, .inl (fun _ => 0))), (q7, .inl (cI, 24, .inl (fun _ => 0))), (q8, .inl (cI, 24, .inl (fun _ => 0))), (q9, .inl (cI, 24, .inl (fun _ => 0)))] H := hP
  have hD : va_D A [(h0, .inr (3, [.ref q1, .null, .ref q5, .null, .int 0])), (q1, .inr (2, [.ref q2, .ref q3, .ref q4, .int 0])), (q2, .inl (cI, 16, .inl (fun _ => 0))), (q3, .inl (cI, 16, .inl (fun _ => 0))), (q4, .inl (cI, 16, .inl (fun _ => 0))), (q5, .inr (0, [.ref q6, .ref q7, .ref q8, .ref q9, .int 0, .int 1, .int 0, .int 1, .int (-1)])), (q6, .inl (cI, 24, .inl (fun _ => 0))), (q7, .inl (cI, 24, .inl (fun _ => 0))), (q8, .inl (cI, 24, .inl (fun _ => 0))), (q9, .inl (cI, 24, .inl (fun _ => 0)))] := hD
  refine lv_aload_n hx hb dX6_init_26 rfl (lv_at hl 0 rfl) ?_
  refine lv_iconst (v := 5) hx hb dX6_init_27 (by decide) ?_
  refine va_newa (atype := .int) (ty := .int) (a0 := (5, .inl (fun _ => 0))) hx hb (hts _ wm_X6_init_15) rfl hK hP hD hS hA (fun _ => rfl) (by decide) (by decide) (by decide) (Nat.le_of_ble_eq_true rfl) (Nat.le_of_ble_eq_true rfl) dX6_init_28 (fun q10 cA H hK1 hP hD hS => ?_)
  have eA := kcI hK1
  rw [eA] at hP hD
  clear hK1 eA
  have hP : va_P D vwCl [(h0, .inr (3, [.ref q1, .null, .ref q5, .null, .int 0])), (q1, .inr (2, [.ref q2, .ref q3, .ref q4, .int 0])), (q2, .inl (cI, 16, .inl (fun _ => 0))), (q3, .inl (cI, 16, .inl (fun _ => 0))), (q4, .inl (cI, 16, .inl (fun _ => 0))), (q5, .inr (0, [.ref q6, .ref q7, .ref q8, .ref q9, .int 0, .int 1, .int 0, .int 1, .int (-1)])), (q6, .inl (cI, 24, .inl (fun _ => 0))), (q7, .inl (cI, 24, .inl (fun _ => 0))), (q8, .inl (cI, 24, .inl (fun _ => 0))), (q9, .inl (cI, 24, .inl (fun _ => 0))), (q10, .inl (cI, 5, .inl (fun _ => 0)))] H := hP
  have hD : va_D A [(h0, .inr (3, [.ref q1, .null, .ref q5, .null, .int 0])), (q1, .inr (2, [.ref q2, .ref q3, .ref q4, .int 0])), (q2, .inl (cI, 16, .inl (fun _ => 0))), (q3, .inl (cI, 16, .inl (fun _ => 0))), (q4, .inl (cI, 16, .inl (fun _ => 0))), (q5, .inr (0, [.ref q6, .ref q7, .ref q8, .ref q9, .int 0, .int 1, .int 0, .int 1, .int (-1)])), (q6, .inl (cI, 24, .inl (fun _ => 0))), (q7, .inl (cI, 24, .inl (fun _ => 0))), (q8, .inl (cI, 24, .inl (fun _ => 0))), (q9, .inl (cI, 24, .inl (fun _ => 0))), (q10, .inl (cI, 5, .inl (fun _ => 0)))] := hD
  refine W.widen (k := 10) (n := 162) (by omega) (by omega) ?_
  refine va_putF (D := D) (ci := 3) (v := .ref q10) (ty := .array .int) (C := RX6) (T := TX6) (N := 5) hx hb hts wi_X6_init_X6 tyX6 tyX6_ok nmX6 hown hK hP hD hS 0 rfl rfl 3 (by decide) (hts _ wm_X6_init_16) (fun _ h9 => h9) rfl hin rfl (by decide +kernel) rfl rfl (Nat.le_of_ble_eq_true rfl) dX6_init_30 (fun H locs hP hD hS => ?_)
  have hP : va_P D vwCl [(h0, .inr (3, [.ref q1, .null, .ref q5, .ref q10, .int 0])), (q1, .inr (2, [.ref q2, .ref q3, .ref q4, .int 0])), (q2, .inl (cI, 16, .inl (fun _ => 0))), (q3, .inl (cI, 16, .inl (fun _ => 0))), (q4, .inl (cI, 16, .inl (fun _ => 0))), (q5, .inr (0, [.ref q6, .ref q7, .ref q8, .ref q9, .int 0, .int 1, .int 0, .int 1, .int (-1)])), (q6, .inl (cI, 24, .inl (fun _ => 0))), (q7, .inl (cI, 24, .inl (fun _ => 0))), (q8, .inl (cI, 24, .inl (fun _ => 0))), (q9, .inl (cI, 24, .inl (fun _ => 0))), (q10, .inl (cI, 5, .inl (fun _ => 0)))] H := hP
  have hD : va_D A [(h0, .inr (3, [.ref q1, .null, .ref q5, .ref q10, .int 0])), (q1, .inr (2, [.ref q2, .ref q3, .ref q4, .int 0])), (q2, .inl (cI, 16, .inl (fun _ => 0))), (q3, .inl (cI, 16, .inl (fun _ => 0))), (q4, .inl (cI, 16, .inl (fun _ => 0))), (q5, .inr (0, [.ref q6, .ref q7, .ref q8, .ref q9, .int 0, .int 1, .int 0, .int 1, .int (-1)])), (q6, .inl (cI, 24, .inl (fun _ => 0))), (q7, .inl (cI, 24, .inl (fun _ => 0))), (q8, .inl (cI, 24, .inl (fun _ => 0))), (q9, .inl (cI, 24, .inl (fun _ => 0))), (q10, .inl (cI, 5, .inl (fun _ => 0)))] := hD
  refine lv_aload_n hx hb dX6_init_33 rfl (lv_at hl 0 rfl) ?_
  refine lv_iconst (v := 0) hx hb dX6_init_34 (by decide) ?_
  refine va_put (D := D) (ci := 3) (v := .int 0) (ty := .int) (C := RX6) (T := TX6) (N := 5) hx hb hts wi_X6_init_X6 tyX6 tyX6_ok nmX6 hown hK hP hD hS 0 rfl rfl 4 (by decide) (hts _ wm_X6_init_17) (fun _ h9 => h9) rfl (by decide +kernel) rfl rfl (Nat.le_of_ble_eq_true rfl) dX6_init_35 (fun H locs hP hD hS => ?_)
  have hP : va_P D vwCl [(h0, .inr (3, [.ref q1, .null, .ref q5, .ref q10, .int 0])), (q1, .inr (2, [.ref q2, .ref q3, .ref q4, .int 0])), (q2, .inl (cI, 16, .inl (fun _ => 0))), (q3, .inl (cI, 16, .inl (fun _ => 0))), (q4, .inl (cI, 16, .inl (fun _ => 0))), (q5, .inr (0, [.ref q6, .ref q7, .ref q8, .ref q9, .int 0, .int 1, .int 0, .int 1, .int (-1)])), (q6, .inl (cI, 24, .inl (fun _ => 0))), (q7, .inl (cI, 24, .inl (fun _ => 0))), (q8, .inl (cI, 24, .inl (fun _ => 0))), (q9, .inl (cI, 24, .inl (fun _ => 0))), (q10, .inl (cI, 5, .inl (fun _ => 0)))] H := hP
  have hD : va_D A [(h0, .inr (3, [.ref q1, .null, .ref q5, .ref q10, .int 0])), (q1, .inr (2, [.ref q2, .ref q3, .ref q4, .int 0])), (q2, .inl (cI, 16, .inl (fun _ => 0))), (q3, .inl (cI, 16, .inl (fun _ => 0))), (q4, .inl (cI, 16, .inl (fun _ => 0))), (q5, .inr (0, [.ref q6, .ref q7, .ref q8, .ref q9, .int 0, .int 1, .int 0, .int 1, .int (-1)])), (q6, .inl (cI, 24, .inl (fun _ => 0))), (q7, .inl (cI, 24, .inl (fun _ => 0))), (q8, .inl (cI, 24, .inl (fun _ => 0))), (q9, .inl (cI, 24, .inl (fun _ => 0))), (q10, .inl (cI, 5, .inl (fun _ => 0)))] := hD
  refine lv_aload_n hx hb dX6_init_38 rfl (lv_at hl 0 rfl) ?_
  refine lv_iconst (v := 4) hx hb dX6_init_39 (by decide) ?_
  refine va_newq hx hb hown (hts _ wm_X6_init_18) hAO hK hP hD hS hA (by decide) (N' := 4) (by decide) (by decide) (Nat.le_of_ble_eq_true rfl) (Nat.le_of_ble_eq_true rfl) dX6_init_40 (fun q11 cA H hK1 hP hD hS => ?_)
  have eA := kcT hK1
  rw [eA] at hP hD
  clear hK1 eA
  have hP : va_P D vwCl [(h0, .inr (3, [.ref q1, .null, .ref q5, .ref q10, .int 0])), (q1, .inr (2, [.ref q2, .ref q3, .ref q4, .int 0])), (q2, .inl (cI, 16, .inl (fun _ => 0))), (q3, .inl (cI, 16, .inl (fun _ => 0))), (q4, .inl (cI, 16, .inl (fun _ => 0))), (q5, .inr (0, [.ref q6, .ref q7, .ref q8, .ref q9, .int 0, .int 1, .int 0, .int 1, .int (-1)])), (q6, .inl (cI, 24, .inl (fun _ => 0))), (q7, .inl (cI, 24, .inl (fun _ => 0))), (q8, .inl (cI, 24, .inl (fun _ => 0))), (q9, .inl (cI, 24, .inl (fun _ => 0))), (q10, .inl (cI, 5, .inl (fun _ => 0))), (q11, .inl (cT, 4, .inr (.inr (.inr (.inr (fun _ => none))))))] H := hP
  have hD : va_D A [(h0, .inr (3, [.ref q1, .null, .ref q5, .ref q10, .int 0])), (q1, .inr (2, [.ref q2, .ref q3, .ref q4, .int 0])), (q2, .inl (cI, 16, .inl (fun _ => 0))), (q3, .inl (cI, 16, .inl (fun _ => 0))), (q4, .inl (cI, 16, .inl (fun _ => 0))), (q5, .inr (0, [.ref q6, .ref q7, .ref q8, .ref q9, .int 0, .int 1, .int 0, .int 1, .int (-1)])), (q6, .inl (cI, 24, .inl (fun _ => 0))), (q7, .inl (cI, 24, .inl (fun _ => 0))), (q8, .inl (cI, 24, .inl (fun _ => 0))), (q9, .inl (cI, 24, .inl (fun _ => 0))), (q10, .inl (cI, 5, .inl (fun _ => 0))), (q11, .inl (cT, 4, .inr (.inr (.inr (.inr (fun _ => none))))))] := hD
  refine W.widen (k := 11) (n := 166) (by omega) (by omega) ?_
  refine va_putF (D := D) (ci := 3) (v := .ref q11) (ty := .array (.object "SixtyTablet$Tablet")) (C := RX6) (T := TX6) (N := 5) hx hb hts wi_X6_init_X6 tyX6 tyX6_ok nmX6 hown hK hP hD hS 0 rfl rfl 1 (by decide) (hts _ wm_X6_init_19) (fun _ h9 => h9) rfl hin rfl (by decide +kernel) rfl rfl (Nat.le_of_ble_eq_true rfl) dX6_init_43 (fun H locs hP hD hS => ?_)
  have hP : va_P D vwCl [(h0, .inr (3, [.ref q1, .ref q11, .ref q5, .ref q10, .int 0])), (q1, .inr (2, [.ref q2, .ref q3, .ref q4, .int 0])), (q2, .inl (cI, 16, .inl (fun _ => 0))), (q3, .inl (cI, 16, .inl (fun _ => 0))), (q4, .inl (cI, 16, .inl (fun _ => 0))), (q5, .inr (0, [.ref q6, .ref q7, .ref q8, .ref q9, .int 0, .int 1, .int 0, .int 1, .int (-1)])), (q6, .inl (cI, 24, .inl (fun _ => 0))), (q7, .inl (cI, 24, .inl (fun _ => 0))), (q8, .inl (cI, 24, .inl (fun _ => 0))), (q9, .inl (cI, 24, .inl (fun _ => 0))), (q10, .inl (cI, 5, .inl (fun _ => 0))), (q11, .inl (cT, 4, .inr (.inr (.inr (.inr (fun _ => none))))))] H := hP
  have hD : va_D A [(h0, .inr (3, [.ref q1, .ref q11, .ref q5, .ref q10, .int 0])), (q1, .inr (2, [.ref q2, .ref q3, .ref q4, .int 0])), (q2, .inl (cI, 16, .inl (fun _ => 0))), (q3, .inl (cI, 16, .inl (fun _ => 0))), (q4, .inl (cI, 16, .inl (fun _ => 0))), (q5, .inr (0, [.ref q6, .ref q7, .ref q8, .ref q9, .int 0, .int 1, .int 0, .int 1, .int (-1)])), (q6, .inl (cI, 24, .inl (fun _ => 0))), (q7, .inl (cI, 24, .inl (fun _ => 0))), (q8, .inl (cI, 24, .inl (fun _ => 0))), (q9, .inl (cI, 24, .inl (fun _ => 0))), (q10, .inl (cI, 5, .inl (fun _ => 0))), (q11, .inl (cT, 4, .inr (.inr (.inr (.inr (fun _ => none))))))] := hD
  refine lv_iconst (v := 0) hx hb dX6_init_46 (by decide) ?_
  refine lv_istore_n (lv' := [(1, .int 0), (0, .ref h0)]) hx hb dX6_init_47 rfl hl (by decide) rfl (fun ls hl => ?_)
  refine lv_iload_n hx hb dX6_init_48 rfl (lv_at hl 0 rfl) ?_
  refine lv_aload_n hx hb dX6_init_49 rfl (lv_at hl 1 rfl) ?_
  refine va_get (D := D) (ci := 3) (v := .ref q11) (C := RX6) (T := TX6) (N := 5) hx hb hts wi_X6_init_X6 hown hK hP 0 rfl rfl 1 (by decide) (hts _ wm_X6_init_19) (fun _ h9 => h9) rfl dX6_init_50 ?_
  refine va_alen hx hb hK hP 11 1 rfl rfl (v := 4) rfl dX6_init_53 ?_
  refine lv_icmp_ge (tgt := 76) hx hb dX6_init_54 (by decide) (fun c9 => absurd c9 (by decide)) (fun _ => ?_)
  refine lv_aload_n hx hb dX6_init_57 rfl (lv_at hl 1 rfl) ?_
  refine va_get (D := D) (ci := 3) (v := .ref q11) (C := RX6) (T := TX6) (N := 5) hx hb hts wi_X6_init_X6 hown hK hP 0 rfl rfl 1 (by decide) (hts _ wm_X6_init_19) (fun _ h9 => h9) rfl dX6_init_58 ?_
  refine lv_iload_n hx hb dX6_init_61 rfl (lv_at hl 0 rfl) ?_
  refine va_new (ci := 1) (fs := [.null, .null, .int 0]) (C := RX3) (T := TX3) (N := 3) hx hb hts wi_X6_init_X3 tyX3 tyX3_ok hown (hts _ wm_X6_init_18) (hts _ wm_X6_init_20) (hts _ wm_X6_init_21) hK hP hD hS hA rfl (fun j hj => by rcases (show j = 0 ∨ j = 1 ∨ j = 2 by omega) with rfl | rfl | rfl <;> rfl) (Nat.le_of_ble_eq_true rfl) (Nat.le_of_ble_eq_true rfl) dX6_init_62 (fun q12 H hP hD hS => ?_)
  have hP : va_P D vwCl [(h0, .inr (3, [.ref q1, .ref q11, .ref q5, .ref q10, .int 0])), (q1, .inr (2, [.ref q2, .ref q3, .ref q4, .int 0])), (q2, .inl (cI, 16, .inl (fun _ => 0))), (q3, .inl (cI, 16, .inl (fun _ => 0))), (q4, .inl (cI, 16, .inl (fun _ => 0))), (q5, .inr (0, [.ref q6, .ref q7, .ref q8, .ref q9, .int 0, .int 1, .int 0, .int 1, .int (-1)])), (q6, .inl (cI, 24, .inl (fun _ => 0))), (q7, .inl (cI, 24, .inl (fun _ => 0))), (q8, .inl (cI, 24, .inl (fun _ => 0))), (q9, .inl (cI, 24, .inl (fun _ => 0))), (q10, .inl (cI, 5, .inl (fun _ => 0))), (q11, .inl (cT, 4, .inr (.inr (.inr (.inr (fun _ => none)))))), (q12, .inr (1, [.null, .null, .int 0]))] H := hP
  have hD : va_D A [(h0, .inr (3, [.ref q1, .ref q11, .ref q5, .ref q10, .int 0])), (q1, .inr (2, [.ref q2, .ref q3, .ref q4, .int 0])), (q2, .inl (cI, 16, .inl (fun _ => 0))), (q3, .inl (cI, 16, .inl (fun _ => 0))), (q4, .inl (cI, 16, .inl (fun _ => 0))), (q5, .inr (0, [.ref q6, .ref q7, .ref q8, .ref q9, .int 0, .int 1, .int 0, .int 1, .int (-1)])), (q6, .inl (cI, 24, .inl (fun _ => 0))), (q7, .inl (cI, 24, .inl (fun _ => 0))), (q8, .inl (cI, 24, .inl (fun _ => 0))), (q9, .inl (cI, 24, .inl (fun _ => 0))), (q10, .inl (cI, 5, .inl (fun _ => 0))), (q11, .inl (cT, 4, .inr (.inr (.inr (.inr (fun _ => none)))))), (q12, .inr (1, [.null, .null, .int 0]))] := hD
  refine W.widen (k := 12) (n := 169) (by omega) (by omega) ?_
  refine lv_dup hx hb dX6_init_65 rfl ?_
  have hPc := hP.sub (ws' := [(q12, .inr (1, [.null, .null, .int 0]))]) [12] rfl
  have hDc := hD.sub (ws' := [(q12, .inr (1, [.null, .null, .int 0]))]) [12] (by decide) rfl
  have hFc := va_free (wc := [(q12, .inr (1, [.null, .null, .int 0]))]) hD hS hA [12] rfl
  refine va_callv (va_runI (As := []) (rest := [.ref q12, .int 0, .ref q11]) ⟨hx, hb, hml, hown, hts⟩ (ctX3_init l D cI cT q12 H.size) (cwI 0 hts gX6_init_X3_init rfl rfl rfl (hts _ wm_X6_init_21) (hts _ wm_X6_init_22) (hts _ wm_X6_init_23) rfl (by decide +kernel) ⟨Nat.le_of_ble_eq_true rfl, Nat.le_of_ble_eq_true rfl⟩) ⟨kI_blind, fun U hU hW => ⟨rfl, by rw [hU], by rw [hU]; exact hPc, va_K.moved hW.alike hK, hDc.weaken (fun _ _ _ _ => trivial)⟩⟩ rfl rfl hl.1 rfl (lv_room (Nat.le_of_ble_eq_true rfl)) dX6_init_66 ⟨Nat.le_of_ble_eq_true rfl, Nat.le_of_ble_eq_true rfl⟩) hS (fun q _ h => hFc q h) hFc (fun u t H1 locs ht hvm hw hB hz1 hk1 hS => ?_)
  obtain ⟨q13, q14, hP1, hD1⟩ := hB
  rw [ht] at hP1
  obtain ⟨hP, hD⟩ := va_join (wr := [(h0, .inr (3, [.ref q1, .ref q11, .ref q5, .ref q10, .int 0])), (q1, .inr (2, [.ref q2, .ref q3, .ref q4, .int 0])), (q2, .inl (cI, 16, .inl (fun _ => 0))), (q3, .inl (cI, 16, .inl (fun _ => 0))), (q4, .inl (cI, 16, .inl (fun _ => 0))), (q5, .inr (0, [.ref q6, .ref q7, .ref q8, .ref q9, .int 0, .int 1, .int 0, .int 1, .int (-1)])), (q6, .inl (cI, 24, .inl (fun _ => 0))), (q7, .inl (cI, 24, .inl (fun _ => 0))), (q8, .inl (cI, 24, .inl (fun _ => 0))), (q9, .inl (cI, 24, .inl (fun _ => 0))), (q10, .inl (cI, 5, .inl (fun _ => 0))), (q11, .inl (cT, 4, .inr (.inr (.inr (.inr (fun _ => none))))))]) (w1 := [(q12, .inr (1, [.ref q13, .ref q14, .int 1])), (q13, .inl (cI, 24, .inl (fun _ => 0))), (q14, .inl (cI, 24, .inl (fun _ => 0)))]) hP hD [12] [0, 1, 2, 3, 4, 5, 6, 7, 8, 9, 10, 11] rfl rfl (by decide) (by decide) hk1 hFc hP1 hD1
  generalize H1 = H at hP hS ⊢
  have hP : va_P D vwCl [(h0, .inr (3, [.ref q1, .ref q11, .ref q5, .ref q10, .int 0])), (q1, .inr (2, [.ref q2, .ref q3, .ref q4, .int 0])), (q2, .inl (cI, 16, .inl (fun _ => 0))), (q3, .inl (cI, 16, .inl (fun _ => 0))), (q4, .inl (cI, 16, .inl (fun _ => 0))), (q5, .inr (0, [.ref q6, .ref q7, .ref q8, .ref q9, .int 0, .int 1, .int 0, .int 1, .int (-1)])), (q6, .inl (cI, 24, .inl (fun _ => 0))), (q7, .inl (cI, 24, .inl (fun _ => 0))), (q8, .inl (cI, 24, .inl (fun _ => 0))), (q9, .inl (cI, 24, .inl (fun _ => 0))), (q10, .inl (cI, 5, .inl (fun _ => 0))), (q11, .inl (cT, 4, .inr (.inr (.inr (.inr (fun _ => none)))))), (q12, .inr (1, [.ref q13, .ref q14, .int 1])), (q13, .inl (cI, 24, .inl (fun _ => 0))), (q14, .inl (cI, 24, .inl (fun _ => 0)))] H := hP
  have hD : va_D A [(h0, .inr (3, [.ref q1, .ref q11, .ref q5, .ref q10, .int 0])), (q1, .inr (2, [.ref q2, .ref q3, .ref q4, .int 0])), (q2, .inl (cI, 16, .inl (fun _ => 0))), (q3, .inl (cI, 16, .inl (fun _ => 0))), (q4, .inl (cI, 16, .inl (fun _ => 0))), (q5, .inr (0, [.ref q6, .ref q7, .ref q8, .ref q9, .int 0, .int 1, .int 0, .int 1, .int (-1)])), (q6, .inl (cI, 24, .inl (fun _ => 0))), (q7, .inl (cI, 24, .inl (fun _ => 0))), (q8, .inl (cI, 24, .inl (fun _ => 0))), (q9, .inl (cI, 24, .inl (fun _ => 0))), (q10, .inl (cI, 5, .inl (fun _ => 0))), (q11, .inl (cT, 4, .inr (.inr (.inr (.inr (fun _ => none)))))), (q12, .inr (1, [.ref q13, .ref q14, .int 1])), (q13, .inl (cI, 24, .inl (fun _ => 0))), (q14, .inl (cI, 24, .inl (fun _ => 0)))] := hD
  refine W.widen (k := 14) (n := 217) (by omega) (by omega) ?_
  refine va_astq hx hb hK hP hD hS 11 1 12 1 (r := (RX3, TX3, 3)) rfl rfl rfl rfl (i := 0) (by unfold vp_in; decide) dX6_init_69 (fun H locs hP hD hS => ?_)
  have hP : va_P D vwCl [(h0, .inr (3, [.ref q1, .ref q11, .ref q5, .ref q10, .int 0])), (q1, .inr (2, [.ref q2, .ref q3, .ref q4, .int 0])), (q2, .inl (cI, 16, .inl (fun _ => 0))), (q3, .inl (cI, 16, .inl (fun _ => 0))), (q4, .inl (cI, 16, .inl (fun _ => 0))), (q5, .inr (0, [.ref q6, .ref q7, .ref q8, .ref q9, .int 0, .int 1, .int 0, .int 1, .int (-1)])), (q6, .inl (cI, 24, .inl (fun _ => 0))), (q7, .inl (cI, 24, .inl (fun _ => 0))), (q8, .inl (cI, 24, .inl (fun _ => 0))), (q9, .inl (cI, 24, .inl (fun _ => 0))), (q10, .inl (cI, 5, .inl (fun _ => 0))), (q11, .inl (cT, 4, .inr (.inr (.inr (.inr (va_up (fun _ => none) 0 (some q12))))))), (q12, .inr (1, [.ref q13, .ref q14, .int 1])), (q13, .inl (cI, 24, .inl (fun _ => 0))), (q14, .inl (cI, 24, .inl (fun _ => 0)))] H := hP
  have hD : va_D A [(h0, .inr (3, [.ref q1, .ref q11, .ref q5, .ref q10, .int 0])), (q1, .inr (2, [.ref q2, .ref q3, .ref q4, .int 0])), (q2, .inl (cI, 16, .inl (fun _ => 0))), (q3, .inl (cI, 16, .inl (fun _ => 0))), (q4, .inl (cI, 16, .inl (fun _ => 0))), (q5, .inr (0, [.ref q6, .ref q7, .ref q8, .ref q9, .int 0, .int 1, .int 0, .int 1, .int (-1)])), (q6, .inl (cI, 24, .inl (fun _ => 0))), (q7, .inl (cI, 24, .inl (fun _ => 0))), (q8, .inl (cI, 24, .inl (fun _ => 0))), (q9, .inl (cI, 24, .inl (fun _ => 0))), (q10, .inl (cI, 5, .inl (fun _ => 0))), (q11, .inl (cT, 4, .inr (.inr (.inr (.inr (va_up (fun _ => none) 0 (some q12))))))), (q12, .inr (1, [.ref q13, .ref q14, .int 1])), (q13, .inl (cI, 24, .inl (fun _ => 0))), (q14, .inl (cI, 24, .inl (fun _ => 0)))] := hD
  refine lv_iinc (v := 1) (lv' := [(1, .int 1), (0, .ref h0)]) hx hb dX6_init_70 hl (k := 0) rfl (by decide) (by decide) rfl (fun ls hl => ?_)
  refine lv_goto (tgt := 48) hx hb dX6_init_73 (by decide) ?_
  refine lv_iload_n hx hb dX6_init_48 rfl (lv_at hl 0 rfl) ?_
  refine lv_aload_n hx hb dX6_init_49 rfl (lv_at hl 1 rfl) ?_
  refine va_get (D := D) (ci := 3) (v := .ref q11) (C := RX6) (T := TX6) (N := 5) hx hb hts wi_X6_init_X6 hown hK hP 0 rfl rfl 1 (by decide) (hts _ wm_X6_init_19) (fun _ h9 => h9) rfl dX6_init_50 ?_
  refine va_alen hx hb hK hP 11 1 rfl rfl (v := 4) rfl dX6_init_53 ?_
  refine lv_icmp_ge (tgt := 76) hx hb dX6_init_54 (by decide) (fun c9 => absurd c9 (by decide)) (fun _ => ?_)
  refine lv_aload_n hx hb dX6_init_57 rfl (lv_at hl 1 rfl) ?_
  refine va_get (D := D) (ci := 3) (v := .ref q11) (C := RX6) (T := TX6) (N := 5) hx hb hts wi_X6_init_X6 hown hK hP 0 rfl rfl 1 (by decide) (hts _ wm_X6_init_19) (fun _ h9 => h9) rfl dX6_init_58 ?_
  refine lv_iload_n hx hb dX6_init_61 rfl (lv_at hl 0 rfl) ?_
  refine va_new (ci := 1) (fs := [.null, .null, .int 0]) (C := RX3) (T := TX3) (N := 3) hx hb hts wi_X6_init_X3 tyX3 tyX3_ok hown (hts _ wm_X6_init_18) (hts _ wm_X6_init_20) (hts _ wm_X6_init_21) hK hP hD hS hA rfl (fun j hj => by rcases (show j = 0 ∨ j = 1 ∨ j = 2 by omega) with rfl | rfl | rfl <;> rfl) (Nat.le_of_ble_eq_true rfl) (Nat.le_of_ble_eq_true rfl) dX6_init_62 (fun q15 H hP hD hS => ?_)
  have hP : va_P D vwCl [(h0, .inr (3, [.ref q1, .ref q11, .ref q5, .ref q10, .int 0])), (q1, .inr (2, [.ref q2, .ref q3, .ref q4, .int 0])), (q2, .inl (cI, 16, .inl (fun _ => 0))), (q3, .inl (cI, 16, .inl (fun _ => 0))), (q4, .inl (cI, 16, .inl (fun _ => 0))), (q5, .inr (0, [.ref q6, .ref q7, .ref q8, .ref q9, .int 0, .int 1, .int 0, .int 1, .int (-1)])), (q6, .inl (cI, 24, .inl (fun _ => 0))), (q7, .inl (cI, 24, .inl (fun _ => 0))), (q8, .inl (cI, 24, .inl (fun _ => 0))), (q9, .inl (cI, 24, .inl (fun _ => 0))), (q10, .inl (cI, 5, .inl (fun _ => 0))), (q11, .inl (cT, 4, .inr (.inr (.inr (.inr (va_up (fun _ => none) 0 (some q12))))))), (q12, .inr (1, [.ref q13, .ref q14, .int 1])), (q13, .inl (cI, 24, .inl (fun _ => 0))), (q14, .inl (cI, 24, .inl (fun _ => 0))), (q15, .inr (1, [.null, .null, .int 0]))] H := hP
  have hD : va_D A [(h0, .inr (3, [.ref q1, .ref q11, .ref q5, .ref q10, .int 0])), (q1, .inr (2, [.ref q2, .ref q3, .ref q4, .int 0])), (q2, .inl (cI, 16, .inl (fun _ => 0))), (q3, .inl (cI, 16, .inl (fun _ => 0))), (q4, .inl (cI, 16, .inl (fun _ => 0))), (q5, .inr (0, [.ref q6, .ref q7, .ref q8, .ref q9, .int 0, .int 1, .int 0, .int 1, .int (-1)])), (q6, .inl (cI, 24, .inl (fun _ => 0))), (q7, .inl (cI, 24, .inl (fun _ => 0))), (q8, .inl (cI, 24, .inl (fun _ => 0))), (q9, .inl (cI, 24, .inl (fun _ => 0))), (q10, .inl (cI, 5, .inl (fun _ => 0))), (q11, .inl (cT, 4, .inr (.inr (.inr (.inr (va_up (fun _ => none) 0 (some q12))))))), (q12, .inr (1, [.ref q13, .ref q14, .int 1])), (q13, .inl (cI, 24, .inl (fun _ => 0))), (q14, .inl (cI, 24, .inl (fun _ => 0))), (q15, .inr (1, [.null, .null, .int 0]))] := hD
  refine W.widen (k := 15) (n := 220) (by omega) (by omega) ?_
  refine lv_dup hx hb dX6_init_65 rfl ?_
  have hPc := hP.sub (ws' := [(q15, .inr (1, [.null, .null, .int 0]))]) [15] rfl
  have hDc := hD.sub (ws' := [(q15, .inr (1, [.null, .null, .int 0]))]) [15] (by decide) rfl
  have hFc := va_free (wc := [(q15, .inr (1, [.null, .null, .int 0]))]) hD hS hA [15] rfl
  refine va_callv (va_runI (As := []) (rest := [.ref q15, .int 1, .ref q11]) ⟨hx, hb, hml, hown, hts⟩ (ctX3_init l D cI cT q15 H.size) (cwI 0 hts gX6_init_X3_init rfl rfl rfl (hts _ wm_X6_init_21) (hts _ wm_X6_init_22) (hts _ wm_X6_init_23) rfl (by decide +kernel) ⟨Nat.le_of_ble_eq_true rfl, Nat.le_of_ble_eq_true rfl⟩) ⟨kI_blind, fun U hU hW => ⟨rfl, by rw [hU], by rw [hU]; exact hPc, va_K.moved hW.alike hK, hDc.weaken (fun _ _ _ _ => trivial)⟩⟩ rfl rfl hl.1 rfl (lv_room (Nat.le_of_ble_eq_true rfl)) dX6_init_66 ⟨Nat.le_of_ble_eq_true rfl, Nat.le_of_ble_eq_true rfl⟩) hS (fun q _ h => hFc q h) hFc (fun u t H1 locs ht hvm hw hB hz1 hk1 hS => ?_)
  obtain ⟨q16, q17, hP1, hD1⟩ := hB
  rw [ht] at hP1
  obtain ⟨hP, hD⟩ := va_join (wr := [(h0, .inr (3, [.ref q1, .ref q11, .ref q5, .ref q10, .int 0])), (q1, .inr (2, [.ref q2, .ref q3, .ref q4, .int 0])), (q2, .inl (cI, 16, .inl (fun _ => 0))), (q3, .inl (cI, 16, .inl (fun _ => 0))), (q4, .inl (cI, 16, .inl (fun _ => 0))), (q5, .inr (0, [.ref q6, .ref q7, .ref q8, .ref q9, .int 0, .int 1, .int 0, .int 1, .int (-1)])), (q6, .inl (cI, 24, .inl (fun _ => 0))), (q7, .inl (cI, 24, .inl (fun _ => 0))), (q8, .inl (cI, 24, .inl (fun _ => 0))), (q9, .inl (cI, 24, .inl (fun _ => 0))), (q10, .inl (cI, 5, .inl (fun _ => 0))), (q11, .inl (cT, 4, .inr (.inr (.inr (.inr (va_up (fun _ => none) 0 (some q12))))))), (q12, .inr (1, [.ref q13, .ref q14, .int 1])), (q13, .inl (cI, 24, .inl (fun _ => 0))), (q14, .inl (cI, 24, .inl (fun _ => 0)))]) (w1 := [(q15, .inr (1, [.ref q16, .ref q17, .int 1])), (q16, .inl (cI, 24, .inl (fun _ => 0))), (q17, .inl (cI, 24, .inl (fun _ => 0)))]) hP hD [15] [0, 1, 2, 3, 4, 5, 6, 7, 8, 9, 10, 11, 12, 13, 14] rfl rfl (by decide) (by decide) hk1 hFc hP1 hD1
  generalize H1 = H at hP hS ⊢
  have hP : va_P D vwCl [(h0, .inr (3, [.ref q1, .ref q11, .ref q5, .ref q10, .int 0])), (q1, .inr (2, [.ref q2, .ref q3, .ref q4, .int 0])), (q2, .inl (cI, 16, .inl (fun _ => 0))), (q3, .inl (cI, 16, .inl (fun _ => 0))), (q4, .inl (cI, 16, .inl (fun _ => 0))), (q5, .inr (0, [.ref q6, .ref q7, .ref q8, .ref q9, .int 0, .int 1, .int 0, .int 1, .int (-1)])), (q6, .inl (cI, 24, .inl (fun _ => 0))), (q7, .inl (cI, 24, .inl (fun _ => 0))), (q8, .inl (cI, 24, .inl (fun _ => 0))), (q9, .inl (cI, 24, .inl (fun _ => 0))), (q10, .inl (cI, 5, .inl (fun _ => 0))), (q11, .inl (cT, 4, .inr (.inr (.inr (.inr (va_up (fun _ => none) 0 (some q12))))))), (q12, .inr (1, [.ref q13, .ref q14, .int 1])), (q13, .inl (cI, 24, .inl (fun _ => 0))), (q14, .inl (cI, 24, .inl (fun _ => 0))), (q15, .inr (1, [.ref q16, .ref q17, .int 1])), (q16, .inl (cI, 24, .inl (fun _ => 0))), (q17, .inl (cI, 24, .inl (fun _ => 0)))] H := hP
  have hD : va_D A [(h0, .inr (3, [.ref q1, .ref q11, .ref q5, .ref q10, .int 0])), (q1, .inr (2, [.ref q2, .ref q3, .ref q4, .int 0])), (q2, .inl (cI, 16, .inl (fun _ => 0))), (q3, .inl (cI, 16, .inl (fun _ => 0))), (q4, .inl (cI, 16, .inl (fun _ => 0))), (q5, .inr (0, [.ref q6, .ref q7, .ref q8, .ref q9, .int 0, .int 1, .int 0, .int 1, .int (-1)])), (q6, .inl (cI, 24, .inl (fun _ => 0))), (q7, .inl (cI, 24, .inl (fun _ => 0))), (q8, .inl (cI, 24, .inl (fun _ => 0))), (q9, .inl (cI, 24, .inl (fun _ => 0))), (q10, .inl (cI, 5, .inl (fun _ => 0))), (q11, .inl (cT, 4, .inr (.inr (.inr (.inr (va_up (fun _ => none) 0 (some q12))))))), (q12, .inr (1, [.ref q13, .ref q14, .int 1])), (q13, .inl (cI, 24, .inl (fun _ => 0))), (q14, .inl (cI, 24, .inl (fun _ => 0))), (q15, .inr (1, [.ref q16, .ref q17, .int 1])), (q16, .inl (cI, 24, .inl (fun _ => 0))), (q17, .inl (cI, 24, .inl (fun _ => 0)))] := hD
  refine W.widen (k := 17) (n := 268) (by omega) (by omega) ?_
  refine va_astq hx hb hK hP hD hS 11 1 15 1 (r := (RX3, TX3, 3)) rfl rfl rfl rfl (i := 1) (by unfold vp_in; decide) dX6_init_69 (fun H locs hP hD hS => ?_)
  have hP : va_P D vwCl [(h0, .inr (3, [.ref q1, .ref q11, .ref q5, .ref q10, .int 0])), (q1, .inr (2, [.ref q2, .ref q3, .ref q4, .int 0])), (q2, .inl (cI, 16, .inl (fun _ => 0))), (q3, .inl (cI, 16, .inl (fun _ => 0))), (q4, .inl (cI, 16, .inl (fun _ => 0))), (q5, .inr (0, [.ref q6, .ref q7, .ref q8, .ref q9, .int 0, .int 1, .int 0, .int 1, .int (-1)])), (q6, .inl (cI, 24, .inl (fun _ => 0))), (q7, .inl (cI, 24, .inl (fun _ => 0))), (q8, .inl (cI, 24, .inl (fun _ => 0))), (q9, .inl (cI, 24, .inl (fun _ => 0))), (q10, .inl (cI, 5, .inl (fun _ => 0))), (q11, .inl (cT, 4, .inr (.inr (.inr (.inr (va_up (va_up (fun _ => none) 0 (some q12)) 1 (some q15))))))), (q12, .inr (1, [.ref q13, .ref q14, .int 1])), (q13, .inl (cI, 24, .inl (fun _ => 0))), (q14, .inl (cI, 24, .inl (fun _ => 0))), (q15, .inr (1, [.ref q16, .ref q17, .int 1])), (q16, .inl (cI, 24, .inl (fun _ => 0))), (q17, .inl (cI, 24, .inl (fun _ => 0)))] H := hP
  have hD : va_D A [(h0, .inr (3, [.ref q1, .ref q11, .ref q5, .ref q10, .int 0])), (q1, .inr (2, [.ref q2, .ref q3, .ref q4, .int 0])), (q2, .inl (cI, 16, .inl (fun _ => 0))), (q3, .inl (cI, 16, .inl (fun _ => 0))), (q4, .inl (cI, 16, .inl (fun _ => 0))), (q5, .inr (0, [.ref q6, .ref q7, .ref q8, .ref q9, .int 0, .int 1, .int 0, .int 1, .int (-1)])), (q6, .inl (cI, 24, .inl (fun _ => 0))), (q7, .inl (cI, 24, .inl (fun _ => 0))), (q8, .inl (cI, 24, .inl (fun _ => 0))), (q9, .inl (cI, 24, .inl (fun _ => 0))), (q10, .inl (cI, 5, .inl (fun _ => 0))), (q11, .inl (cT, 4, .inr (.inr (.inr (.inr (va_up (va_up (fun _ => none) 0 (some q12)) 1 (some q15))))))), (q12, .inr (1, [.ref q13, .ref q14, .int 1])), (q13, .inl (cI, 24, .inl (fun _ => 0))), (q14, .inl (cI, 24, .inl (fun _ => 0))), (q15, .inr (1, [.ref q16, .ref q17, .int 1])), (q16, .inl (cI, 24, .inl (fun _ => 0))), (q17, .inl (cI, 24, .inl (fun _ => 0)))] := hD
  refine lv_iinc (v := 2) (lv' := [(1, .int 2), (0, .ref h0)]) hx hb dX6_init_70 hl (k := 0) rfl (by decide) (by decide) rfl (fun ls hl => ?_)
  refine lv_goto (tgt := 48) hx hb dX6_init_73 (by decide) ?_
  refine lv_iload_n hx hb dX6_init_48 rfl (lv_at hl 0 rfl) ?_
  refine lv_aload_n hx hb dX6_init_49 rfl (lv_at hl 1 rfl) ?_
  refine va_get (D := D) (ci := 3) (v := .ref q11) (C := RX6) (T := TX6) (N := 5) hx hb hts wi_X6_init_X6 hown hK hP 0 rfl rfl 1 (by decide) (hts _ wm_X6_init_19) (fun _ h9 => h9) rfl dX6_init_50 ?_
  refine va_alen hx hb hK hP 11 1 rfl rfl (v := 4) rfl dX6_init_53 ?_
  refine lv_icmp_ge (tgt := 76) hx hb dX6_init_54 (by decide) (fun c9 => absurd c9 (by decide)) (fun _ => ?_)
  refine lv_aload_n hx hb dX6_init_57 rfl (lv_at hl 1 rfl) ?_
  refine va_get (D := D) (ci := 3) (v := .ref q11) (C := RX6) (T := TX6) (N := 5) hx hb hts wi_X6_init_X6 hown hK hP 0 rfl rfl 1 (by decide) (hts _ wm_X6_init_19) (fun _ h9 => h9) rfl dX6_init_58 ?_
  refine lv_iload_n hx hb dX6_init_61 rfl (lv_at hl 0 rfl) ?_
  refine va_new (ci := 1) (fs := [.null, .null, .int 0]) (C := RX3) (T := TX3) (N := 3) hx hb hts wi_X6_init_X3 tyX3 tyX3_ok hown (hts _ wm_X6_init_18) (hts _ wm_X6_init_20) (hts _ wm_X6_init_21) hK hP hD hS hA rfl (fun j hj => by rcases (show j = 0 ∨ j = 1 ∨ j = 2 by omega) with rfl | rfl | rfl <;> rfl) (Nat.le_of_ble_eq_true rfl) (Nat.le_of_ble_eq_true rfl) dX6_init_62 (fun q18 H hP hD hS => ?_)
  have hP : va_P D vwCl [(h0, .inr (3, [.ref q1, .ref q11, .ref q5, .ref q10, .int 0])), (q1, .inr (2, [.ref q2, .ref q3, .ref q4, .int 0])), (q2, .inl (cI, 16, .inl (fun _ => 0))), (q3, .inl (cI, 16, .inl (fun _ => 0))), (q4, .inl (cI, 16, .inl (fun _ => 0))), (q5, .inr (0, [.ref q6, .ref q7, .ref q8, .ref q9, .int 0, .int 1, .int 0, .int 1, .int (-1)])), (q6, .inl (cI, 24, .inl (fun _ => 0))), (q7, .inl (cI, 24, .inl (fun _ => 0))), (q8, .inl (cI, 24, .inl (fun _ => 0))), (q9, .inl (cI, 24, .inl (fun _ => 0))), (q10, .inl (cI, 5, .inl (fun _ => 0))), (q11, .inl (cT, 4, .inr (.inr (.inr (.inr (va_up (va_up (fun _ => none) 0 (some q12)) 1 (some q15))))))), (q12, .inr (1, [.ref q13, .ref q14, .int 1])), (q13, .inl (cI, 24, .inl (fun _ => 0))), (q14, .inl (cI, 24, .inl (fun _ => 0))), (q15, .inr (1, [.ref q16, .ref q17, .int 1])), (q16, .inl (cI, 24, .inl (fun _ => 0))), (q17, .inl (cI, 24, .inl (fun _ => 0))), (q18, .inr (1, [.null, .null, .int 0]))] H := hP
  have hD : va_D A [(h0, .inr (3, [.ref q1, .ref q11, .ref q5, .ref q10, .int 0])), (q1, .inr (2, [.ref q2, .ref q3, .ref q4, .int 0])), (q2, .inl (cI, 16, .inl (fun _ => 0))), (q3, .inl (cI, 16, .inl (fun _ => 0))), (q4, .inl (cI, 16, .inl (fun _ => 0))), (q5, .inr (0, [.ref q6, .ref q7, .ref q8, .ref q9, .int 0, .int 1, .int 0, .int 1, .int (-1)])), (q6, .inl (cI, 24, .inl (fun _ => 0))), (q7, .inl (cI, 24, .inl (fun _ => 0))), (q8, .inl (cI, 24, .inl (fun _ => 0))), (q9, .inl (cI, 24, .inl (fun _ => 0))), (q10, .inl (cI, 5, .inl (fun _ => 0))), (q11, .inl (cT, 4, .inr (.inr (.inr (.inr (va_up (va_up (fun _ => none) 0 (some q12)) 1 (some q15))))))), (q12, .inr (1, [.ref q13, .ref q14, .int 1])), (q13, .inl (cI, 24, .inl (fun _ => 0))), (q14, .inl (cI, 24, .inl (fun _ => 0))), (q15, .inr (1, [.ref q16, .ref q17, .int 1])), (q16, .inl (cI, 24, .inl (fun _ => 0))), (q17, .inl (cI, 24, .inl (fun _ => 0))), (q18, .inr (1, [.null, .null, .int 0]))] := hD
  refine W.widen (k := 18) (n := 271) (by omega) (by omega) ?_
  refine lv_dup hx hb dX6_init_65 rfl ?_
  have hPc := hP.sub (ws' := [(q18, .inr (1, [.null, .null, .int 0]))]) [18] rfl
  have hDc := hD.sub (ws' := [(q18, .inr (1, [.null, .null, .int 0]))]) [18] (by decide) rfl
  have hFc := va_free (wc := [(q18, .inr (1, [.null, .null, .int 0]))]) hD hS hA [18] rfl
  refine va_callv (va_runI (As := []) (rest := [.ref q18, .int 2, .ref q11]) ⟨hx, hb, hml, hown, hts⟩ (ctX3_init l D cI cT q18 H.size) (cwI 0 hts gX6_init_X3_init rfl rfl rfl (hts _ wm_X6_init_21) (hts _ wm_X6_init_22) (hts _ wm_X6_init_23) rfl (by decide +kernel) ⟨Nat.le_of_ble_eq_true rfl, Nat.le_of_ble_eq_true rfl⟩) ⟨kI_blind, fun U hU hW => ⟨rfl, by rw [hU], by rw [hU]; exact hPc, va_K.moved hW.alike hK, hDc.weaken (fun _ _ _ _ => trivial)⟩⟩ rfl rfl hl.1 rfl (lv_room (Nat.le_of_ble_eq_true rfl)) dX6_init_66 ⟨Nat.le_of_ble_eq_true rfl, Nat.le_of_ble_eq_true rfl⟩) hS (fun q _ h => hFc q h) hFc (fun u t H1 locs ht hvm hw hB hz1 hk1 hS => ?_)
  obtain ⟨q19, q20, hP1, hD1⟩ := hB
  rw [ht] at hP1
  obtain ⟨hP, hD⟩ := va_join (wr := [(h0, .inr (3, [.ref q1, .ref q11, .ref q5, .ref q10, .int 0])), (q1, .inr (2, [.ref q2, .ref q3, .ref q4, .int 0])), (q2, .inl (cI, 16, .inl (fun _ => 0))), (q3, .inl (cI, 16, .inl (fun _ => 0))), (q4, .inl (cI, 16, .inl (fun _ => 0))), (q5, .inr (0, [.ref q6, .ref q7, .ref q8, .ref q9, .int 0, .int 1, .int 0, .int 1, .int (-1)])), (q6, .inl (cI, 24, .inl (fun _ => 0))), (q7, .inl (cI, 24, .inl (fun _ => 0))), (q8, .inl (cI, 24, .inl (fun _ => 0))), (q9, .inl (cI, 24, .inl (fun _ => 0))), (q10, .inl (cI, 5, .inl (fun _ => 0))), (q11, .inl (cT, 4, .inr (.inr (.inr (.inr (va_up (va_up (fun _ => none) 0 (some q12)) 1 (some q15))))))), (q12, .inr (1, [.ref q13, .ref q14, .int 1])), (q13, .inl (cI, 24, .inl (fun _ => 0))), (q14, .inl (cI, 24, .inl (fun _ => 0))), (q15, .inr (1, [.ref q16, .ref q17, .int 1])), (q16, .inl (cI, 24, .inl (fun _ => 0))), (q17, .inl (cI, 24, .inl (fun _ => 0)))]) (w1 := [(q18, .inr (1, [.ref q19, .ref q20, .int 1])), (q19, .inl (cI, 24, .inl (fun _ => 0))), (q20, .inl (cI, 24, .inl (fun _ => 0)))]) hP hD [18] [0, 1, 2, 3, 4, 5, 6, 7, 8, 9, 10, 11, 12, 13, 14, 15, 16, 17] rfl rfl (by decide) (by decide) hk1 hFc hP1 hD1
  generalize H1 = H at hP hS ⊢
  have hP : va_P D vwCl [(h0, .inr (3, [.ref q1, .ref q11, .ref q5, .ref q10, .int 0])), (q1, .inr (2, [.ref q2, .ref q3, .ref q4, .int 0])), (q2, .inl (cI, 16, .inl (fun _ => 0))), (q3, .inl (cI, 16, .inl (fun _ => 0))), (q4, .inl (cI, 16, .inl (fun _ => 0))), (q5, .inr (0, [.ref q6, .ref q7, .ref q8, .ref q9, .int 0, .int 1, .int 0, .int 1, .int (-1)])), (q6, .inl (cI, 24, .inl (fun _ => 0))), (q7, .inl (cI, 24, .inl (fun _ => 0))), (q8, .inl (cI, 24, .inl (fun _ => 0))), (q9, .inl (cI, 24, .inl (fun _ => 0))), (q10, .inl (cI, 5, .inl (fun _ => 0))), (q11, .inl (cT, 4, .inr (.inr (.inr (.inr (va_up (va_up (fun _ => none) 0 (some q12)) 1 (some q15))))))), (q12, .inr (1, [.ref q13, .ref q14, .int 1])), (q13, .inl (cI, 24, .inl (fun _ => 0))), (q14, .inl (cI, 24, .inl (fun _ => 0))), (q15, .inr (1, [.ref q16, .ref q17, .int 1])), (q16, .inl (cI, 24, .inl (fun _ => 0))), (q17, .inl (cI, 24, .inl (fun _ => 0))), (q18, .inr (1, [.ref q19, .ref q20, .int 1])), (q19, .inl (cI, 24, .inl (fun _ => 0))), (q20, .inl (cI, 24, .inl (fun _ => 0)))] H := hP
  have hD : va_D A [(h0, .inr (3, [.ref q1, .ref q11, .ref q5, .ref q10, .int 0])), (q1, .inr (2, [.ref q2, .ref q3, .ref q4, .int 0])), (q2, .inl (cI, 16, .inl (fun _ => 0))), (q3, .inl (cI, 16, .inl (fun _ => 0))), (q4, .inl (cI, 16, .inl (fun _ => 0))), (q5, .inr (0, [.ref q6, .ref q7, .ref q8, .ref q9, .int 0, .int 1, .int 0, .int 1, .int (-1)])), (q6, .inl (cI, 24, .inl (fun _ => 0))), (q7, .inl (cI, 24, .inl (fun _ => 0))), (q8, .inl (cI, 24, .inl (fun _ => 0))), (q9, .inl (cI, 24, .inl (fun _ => 0))), (q10, .inl (cI, 5, .inl (fun _ => 0))), (q11, .inl (cT, 4, .inr (.inr (.inr (.inr (va_up (va_up (fun _ => none) 0 (some q12)) 1 (some q15))))))), (q12, .inr (1, [.ref q13, .ref q14, .int 1])), (q13, .inl (cI, 24, .inl (fun _ => 0))), (q14, .inl (cI, 24, .inl (fun _ => 0))), (q15, .inr (1, [.ref q16, .ref q17, .int 1])), (q16, .inl (cI, 24, .inl (fun _ => 0))), (q17, .inl (cI, 24, .inl (fun _ => 0))), (q18, .inr (1, [.ref q19, .ref q20, .int 1])), (q19, .inl (cI, 24, .inl (fun _ => 0))), (q20, .inl (cI, 24, .inl (fun _ => 0)))] := hD
  refine W.widen (k := 20) (n := 319) (by omega) (by omega) ?_
  refine va_astq hx hb hK hP hD hS 11 1 18 1 (r := (RX3, TX3, 3)) rfl rfl rfl rfl (i := 2) (by unfold vp_in; decide) dX6_init_69 (fun H locs hP hD hS => ?_)
  have hP : va_P D vwCl [(h0, .inr (3, [.ref q1, .ref q11, .ref q5, .ref q10, .int 0])), (q1, .inr (2, [.ref q2, .ref q3, .ref q4, .int 0])), (q2, .inl (cI, 16, .inl (fun _ => 0))), (q3, .inl (cI, 16, .inl (fun _ => 0))), (q4, .inl (cI, 16, .inl (fun _ => 0))), (q5, .inr (0, [.ref q6, .ref q7, .ref q8, .ref q9, .int 0, .int 1, .int 0, .int 1, .int (-1)])), (q6, .inl (cI, 24, .inl (fun _ => 0))), (q7, .inl (cI, 24, .inl (fun _ => 0))), (q8, .inl (cI, 24, .inl (fun _ => 0))), (q9, .inl (cI, 24, .inl (fun _ => 0))), (q10, .inl (cI, 5, .inl (fun _ => 0))), (q11, .inl (cT, 4, .inr (.inr (.inr (.inr (va_up (va_up (va_up (fun _ => none) 0 (some q12)) 1 (some q15)) 2 (some q18))))))), (q12, .inr (1, [.ref q13, .ref q14, .int 1])), (q13, .inl (cI, 24, .inl (fun _ => 0))), (q14, .inl (cI, 24, .inl (fun _ => 0))), (q15, .inr (1, [.ref q16, .ref q17, .int 1])), (q16, .inl (cI, 24, .inl (fun _ => 0))), (q17, .inl (cI, 24, .inl (fun _ => 0))), (q18, .inr (1, [.ref q19, .ref q20, .int 1])), (q19, .inl (cI, 24, .inl (fun _ => 0))), (q20, .inl (cI, 24, .inl (fun _ => 0)))] H := hP
  have hD : va_D A [(h0, .inr (3, [.ref q1, .ref q11, .ref q5, .ref q10, .int 0])), (q1, .inr (2, [.ref q2, .ref q3, .ref q4, .int 0])), (q2, .inl (cI, 16, .inl (fun _ => 0))), (q3, .inl (cI, 16, .inl (fun _ => 0))), (q4, .inl (cI, 16, .inl (fun _ => 0))), (q5, .inr (0, [.ref q6, .ref q7, .ref q8, .ref q9, .int 0, .int 1, .int 0, .int 1, .int (-1)])), (q6, .inl (cI, 24, .inl (fun _ => 0))), (q7, .inl (cI, 24, .inl (fun _ => 0))), (q8, .inl (cI, 24, .inl (fun _ => 0))), (q9, .inl (cI, 24, .inl (fun _ => 0))), (q10, .inl (cI, 5, .inl (fun _ => 0))), (q11, .inl (cT, 4, .inr (.inr (.inr (.inr (va_up (va_up (va_up (fun _ => none) 0 (some q12)) 1 (some q15)) 2 (some q18))))))), (q12, .inr (1, [.ref q13, .ref q14, .int 1])), (q13, .inl (cI, 24, .inl (fun _ => 0))), (q14, .inl (cI, 24, .inl (fun _ => 0))), (q15, .inr (1, [.ref q16, .ref q17, .int 1])), (q16, .inl (cI, 24, .inl (fun _ => 0))), (q17, .inl (cI, 24, .inl (fun _ => 0))), (q18, .inr (1, [.ref q19, .ref q20, .int 1])), (q19, .inl (cI, 24, .inl (fun _ => 0))), (q20, .inl (cI, 24, .inl (fun _ => 0)))] := hD
  refine lv_iinc (v := 3) (lv' := [(1, .int 3), (0, .ref h0)]) hx hb dX6_init_70 hl (k := 0) rfl (by decide) (by decide) rfl (fun ls hl => ?_)
  refine lv_goto (tgt := 48) hx hb dX6_init_73 (by decide) ?_
  refine lv_iload_n hx hb dX6_init_48 rfl (lv_at hl 0 rfl) ?_
  refine lv_aload_n hx hb dX6_init_49 rfl (lv_at hl 1 rfl) ?_
  refine va_get (D := D) (ci := 3) (v := .ref q11) (C := RX6) (T := TX6) (N := 5) hx hb hts wi_X6_init_X6 hown hK hP 0 rfl rfl 1 (by decide) (hts _ wm_X6_init_19) (fun _ h9 => h9) rfl dX6_init_50 ?_
  refine va_alen hx hb hK hP 11 1 rfl rfl (v := 4) rfl dX6_init_53 ?_
  refine lv_icmp_ge (tgt := 76) hx hb dX6_init_54 (by decide) (fun c9 => absurd c9 (by decide)) (fun _ => ?_)
  refine lv_aload_n hx hb dX6_init_57 rfl (lv_at hl 1 rfl) ?_
  refine va_get (D := D) (ci := 3) (v := .ref q11) (C := RX6) (T := TX6) (N := 5) hx hb hts wi_X6_init_X6 hown hK hP 0 rfl rfl 1 (by decide) (hts _ wm_X6_init_19) (fun _ h9 => h9) rfl dX6_init_58 ?_
  refine lv_iload_n hx hb dX6_init_61 rfl (lv_at hl 0 rfl) ?_
  refine va_new (ci := 1) (fs := [.null, .null, .int 0]) (C := RX3) (T := TX3) (N := 3) hx hb hts wi_X6_init_X3 tyX3 tyX3_ok hown (hts _ wm_X6_init_18) (hts _ wm_X6_init_20) (hts _ wm_X6_init_21) hK hP hD hS hA rfl (fun j hj => by rcases (show j = 0 ∨ j = 1 ∨ j = 2 by omega) with rfl | rfl | rfl <;> rfl) (Nat.le_of_ble_eq_true rfl) (Nat.le_of_ble_eq_true rfl) dX6_init_62 (fun q21 H hP hD hS => ?_)
  have hP : va_P D vwCl [(h0, .inr (3, [.ref q1, .ref q11, .ref q5, .ref q10, .int 0])), (q1, .inr (2, [.ref q2, .ref q3, .ref q4, .int 0])), (q2, .inl (cI, 16, .inl (fun _ => 0))), (q3, .inl (cI, 16, .inl (fun _ => 0))), (q4, .inl (cI, 16, .inl (fun _ => 0))), (q5, .inr (0, [.ref q6, .ref q7, .ref q8, .ref q9, .int 0, .int 1, .int 0, .int 1, .int (-1)])), (q6, .inl (cI, 24, .inl (fun _ => 0))), (q7, .inl (cI, 24, .inl (fun _ => 0))), (q8, .inl (cI, 24, .inl (fun _ => 0))), (q9, .inl (cI, 24, .inl (fun _ => 0))), (q10, .inl (cI, 5, .inl (fun _ => 0))), (q11, .inl (cT, 4, .inr (.inr (.inr (.inr (va_up (va_up (va_up (fun _ => none) 0 (some q12)) 1 (some q15)) 2 (some q18))))))), (q12, .inr (1, [.ref q13, .ref q14, .int 1])), (q13, .inl (cI, 24, .inl (fun _ => 0))), (q14, .inl (cI, 24, .inl (fun _ => 0))), (q15, .inr (1, [.ref q16, .ref q17, .int 1])), (q16, .inl (cI, 24, .inl (fun _ => 0))), (q17, .inl (cI, 24, .inl (fun _ => 0))), (q18, .inr (1, [.ref q19, .ref q20, .int 1])), (q19, .inl (cI, 24, .inl (fun _ => 0))), (q20, .inl (cI, 24, .inl (fun _ => 0))), (q21, .inr (1, [.null, .null, .int 0]))] H := hP
  have hD : va_D A [(h0, .inr (3, [.ref q1, .ref q11, .ref q5, .ref q10, .int 0])), (q1, .inr (2, [.ref q2, .ref q3, .ref q4, .int 0])), (q2, .inl (cI, 16, .inl (fun _ => 0))), (q3, .inl (cI, 16, .inl (fun _ => 0))), (q4, .inl (cI, 16, .inl (fun _ => 0))), (q5, .inr (0, [.ref q6, .ref q7, .ref q8, .ref q9, .int 0, .int 1, .int 0, .int 1, .int (-1)])), (q6, .inl (cI, 24, .inl (fun _ => 0))), (q7, .inl (cI, 24, .inl (fun _ => 0))), (q8, .inl (cI, 24, .inl (fun _ => 0))), (q9, .inl (cI, 24, .inl (fun _ => 0))), (q10, .inl (cI, 5, .inl (fun _ => 0))), (q11, .inl (cT, 4, .inr (.inr (.inr (.inr (va_up (va_up (va_up (fun _ => none) 0 (some q12)) 1 (some q15)) 2 (some q18))))))), (q12, .inr (1, [.ref q13, .ref q14, .int 1])), (q13, .inl (cI, 24, .inl (fun _ => 0))), (q14, .inl (cI, 24, .inl (fun _ => 0))), (q15, .inr (1, [.ref q16, .ref q17, .int 1])), (q16, .inl (cI, 24, .inl (fun _ => 0))), (q17, .inl (cI, 24, .inl (fun _ => 0))), (q18, .inr (1, [.ref q19, .ref q20, .int 1])), (q19, .inl (cI, 24, .inl (fun _ => 0))), (q20, .inl (cI, 24, .inl (fun _ => 0))), (q21, .inr (1, [.null, .null, .int 0]))] := hD
  refine W.widen (k := 21) (n := 322) (by omega) (by omega) ?_
  refine lv_dup hx hb dX6_init_65 rfl ?_
  have hPc := hP.sub (ws' := [(q21, .inr (1, [.null, .null, .int 0]))]) [21] rfl
  have hDc := hD.sub (ws' := [(q21, .inr (1, [.null, .null, .int 0]))]) [21] (by decide) rfl
  have hFc := va_free (wc := [(q21, .inr (1, [.null, .null, .int 0]))]) hD hS hA [21] rfl
  refine va_callv (va_runI (As := []) (rest := [.ref q21, .int 3, .ref q11]) ⟨hx, hb, hml, hown, hts⟩ (ctX3_init l D cI cT q21 H.size) (cwI 0 hts gX6_init_X3_init rfl rfl rfl (hts _ wm_X6_init_21) (hts _ wm_X6_init_22) (hts _ wm_X6_init_23) rfl (by decide +kernel) ⟨Nat.le_of_ble_eq_true rfl, Nat.le_of_ble_eq_true rfl⟩) ⟨kI_blind, fun U hU hW => ⟨rfl, by rw [hU], by rw [hU]; exact hPc, va_K.moved hW.alike hK, hDc.weaken (fun _ _ _ _ => trivial)⟩⟩ rfl rfl hl.1 rfl (lv_room (Nat.le_of_ble_eq_true rfl)) dX6_init_66 ⟨Nat.le_of_ble_eq_true rfl, Nat.le_of_ble_eq_true rfl⟩) hS (fun q _ h => hFc q h) hFc (fun u t H1 locs ht hvm hw hB hz1 hk1 hS => ?_)
  obtain ⟨q22, q23, hP1, hD1⟩ := hB
  rw [ht] at hP1
  obtain ⟨hP, hD⟩ := va_join (wr := [(h0, .inr (3, [.ref q1, .ref q11, .ref q5, .ref q10, .int 0])), (q1, .inr (2, [.ref q2, .ref q3, .ref q4, .int 0])), (q2, .inl (cI, 16, .inl (fun _ => 0))), (q3, .inl (cI, 16, .inl (fun _ => 0))), (q4, .inl (cI, 16, .inl (fun _ => 0))), (q5, .inr (0, [.ref q6, .ref q7, .ref q8, .ref q9, .int 0, .int 1, .int 0, .int 1, .int (-1)])), (q6, .inl (cI, 24, .inl (fun _ => 0))), (q7, .inl (cI, 24, .inl (fun _ => 0))), (q8, .inl (cI, 24, .inl (fun _ => 0))), (q9, .inl (cI, 24, .inl (fun _ => 0))), (q10, .inl (cI, 5, .inl (fun _ => 0))), (q11, .inl (cT, 4, .inr (.inr (.inr (.inr (va_up (va_up (va_up (fun _ => none) 0 (some q12)) 1 (some q15)) 2 (some q18))))))), (q12, .inr (1, [.ref q13, .ref q14, .int 1])), (q13, .inl (cI, 24, .inl (fun _ => 0))), (q14, .inl (cI, 24, .inl (fun _ => 0))), (q15, .inr (1, [.ref q16, .ref q17, .int 1])), (q16, .inl (cI, 24, .inl (fun _ => 0))), (q17, .inl (cI, 24, .inl (fun _ => 0))), (q18, .inr (1, [.ref q19, .ref q20, .int 1])), (q19, .inl (cI, 24, .inl (fun _ => 0))), (q20, .inl (cI, 24, .inl (fun _ => 0)))]) (w1 := [(q21, .inr (1, [.ref q22, .ref q23, .int 1])), (q22, .inl (cI, 24, .inl (fun _ => 0))), (q23, .inl (cI, 24, .inl (fun _ => 0)))]) hP hD [21] [0, 1, 2, 3, 4, 5, 6, 7, 8, 9, 10, 11, 12, 13, 14, 15, 16, 17, 18, 19, 20] rfl rfl (by decide) (by decide) hk1 hFc hP1 hD1
  generalize H1 = H at hP hS ⊢
  have hP : va_P D vwCl [(h0, .inr (3, [.ref q1, .ref q11, .ref q5, .ref q10, .int 0])), (q1, .inr (2, [.ref q2, .ref q3, .ref q4, .int 0])), (q2, .inl (cI, 16, .inl (fun _ => 0))), (q3, .inl (cI, 16, .inl (fun _ => 0))), (q4, .inl (cI, 16, .inl (fun _ => 0))), (q5, .inr (0, [.ref q6, .ref q7, .ref q8, .ref q9, .int 0, .int 1, .int 0, .int 1, .int (-1)])), (q6, .inl (cI, 24, .inl (fun _ => 0))), (q7, .inl (cI, 24, .inl (fun _ => 0))), (q8, .inl (cI, 24, .inl (fun _ => 0))), (q9, .inl (cI, 24, .inl (fun _ => 0))), (q10, .inl (cI, 5, .inl (fun _ => 0))), (q11, .inl (cT, 4, .inr (.inr (.inr (.inr (va_up (va_up (va_up (fun _ => none) 0 (some q12)) 1 (some q15)) 2 (some q18))))))), (q12, .inr (1, [.ref q13, .ref q14, .int 1])), (q13, .inl (cI, 24, .inl (fun _ => 0))), (q14, .inl (cI, 24, .inl (fun _ => 0))), (q15, .inr (1, [.ref q16, .ref q17, .int 1])), (q16, .inl (cI, 24, .inl (fun _ => 0))), (q17, .inl (cI, 24, .inl (fun _ => 0))), (q18, .inr (1, [.ref q19, .ref q20, .int 1])), (q19, .inl (cI, 24, .inl (fun _ => 0))), (q20, .inl (cI, 24, .inl (fun _ => 0))), (q21, .inr (1, [.ref q22, .ref q23, .int 1])), (q22, .inl (cI, 24, .inl (fun _ => 0))), (q23, .inl (cI, 24, .inl (fun _ => 0)))] H := hP
  have hD : va_D A [(h0, .inr (3, [.ref q1, .ref q11, .ref q5, .ref q10, .int 0])), (q1, .inr (2, [.ref q2, .ref q3, .ref q4, .int 0])), (q2, .inl (cI, 16, .inl (fun _ => 0))), (q3, .inl (cI, 16, .inl (fun _ => 0))), (q4, .inl (cI, 16, .inl (fun _ => 0))), (q5, .inr (0, [.ref q6, .ref q7, .ref q8, .ref q9, .int 0, .int 1, .int 0, .int 1, .int (-1)])), (q6, .inl (cI, 24, .inl (fun _ => 0))), (q7, .inl (cI, 24, .inl (fun _ => 0))), (q8, .inl (cI, 24, .inl (fun _ => 0))), (q9, .inl (cI, 24, .inl (fun _ => 0))), (q10, .inl (cI, 5, .inl (fun _ => 0))), (q11, .inl (cT, 4, .inr (.inr (.inr (.inr (va_up (va_up (va_up (fun _ => none) 0 (some q12)) 1 (some q15)) 2 (some q18))))))), (q12, .inr (1, [.ref q13, .ref q14, .int 1])), (q13, .inl (cI, 24, .inl (fun _ => 0))), (q14, .inl (cI, 24, .inl (fun _ => 0))), (q15, .inr (1, [.ref q16, .ref q17, .int 1])), (q16, .inl (cI, 24, .inl (fun _ => 0))), (q17, .inl (cI, 24, .inl (fun _ => 0))), (q18, .inr (1, [.ref q19, .ref q20, .int 1])), (q19, .inl (cI, 24, .inl (fun _ => 0))), (q20, .inl (cI, 24, .inl (fun _ => 0))), (q21, .inr (1, [.ref q22, .ref q23, .int 1])), (q22, .inl (cI, 24, .inl (fun _ => 0))), (q23, .inl (cI, 24, .inl (fun _ => 0)))] := hD
  refine W.widen (k := 23) (n := 370) (by omega) (by omega) ?_
  refine va_astq hx hb hK hP hD hS 11 1 21 1 (r := (RX3, TX3, 3)) rfl rfl rfl rfl (i := 3) (by unfold vp_in; decide) dX6_init_69 (fun H locs hP hD hS => ?_)
  have hP : va_P D vwCl [(h0, .inr (3, [.ref q1, .ref q11, .ref q5, .ref q10, .int 0])), (q1, .inr (2, [.ref q2, .ref q3, .ref q4, .int 0])), (q2, .inl (cI, 16, .inl (fun _ => 0))), (q3, .inl (cI, 16, .inl (fun _ => 0))), (q4, .inl (cI, 16, .inl (fun _ => 0))), (q5, .inr (0, [.ref q6, .ref q7, .ref q8, .ref q9, .int 0, .int 1, .int 0, .int 1, .int (-1)])), (q6, .inl (cI, 24, .inl (fun _ => 0))), (q7, .inl (cI, 24, .inl (fun _ => 0))), (q8, .inl (cI, 24, .inl (fun _ => 0))), (q9, .inl (cI, 24, .inl (fun _ => 0))), (q10, .inl (cI, 5, .inl (fun _ => 0))), (q11, .inl (cT, 4, .inr (.inr (.inr (.inr (va_up (va_up (va_up (va_up (fun _ => none) 0 (some q12)) 1 (some q15)) 2 (some q18)) 3 (some q21))))))), (q12, .inr (1, [.ref q13, .ref q14, .int 1])), (q13, .inl (cI, 24, .inl (fun _ => 0))), (q14, .inl (cI, 24, .inl (fun _ => 0))), (q15, .inr (1, [.ref q16, .ref q17, .int 1])), (q16, .inl (cI, 24, .inl (fun _ => 0))), (q17, .inl (cI, 24, .inl (fun _ => 0))), (q18, .inr (1, [.ref q19, .ref q20, .int 1])), (q19, .inl (cI, 24, .inl (fun _ => 0))), (q20, .inl (cI, 24, .inl (fun _ => 0))), (q21, .inr (1, [.ref q22, .ref q23, .int 1])), (q22, .inl (cI, 24, .inl (fun _ => 0))), (q23, .inl (cI, 24, .inl (fun _ => 0)))] H := hP
  have hD : va_D A [(h0, .inr (3, [.ref q1, .ref q11, .ref q5, .ref q10, .int 0])), (q1, .inr (2, [.ref q2, .ref q3, .ref q4, .int 0])), (q2, .inl (cI, 16, .inl (fun _ => 0))), (q3, .inl (cI, 16, .inl (fun _ => 0))), (q4, .inl (cI, 16, .inl (fun _ => 0))), (q5, .inr (0, [.ref q6, .ref q7, .ref q8, .ref q9, .int 0, .int 1, .int 0, .int 1, .int (-1)])), (q6, .inl (cI, 24, .inl (fun _ => 0))), (q7, .inl (cI, 24, .inl (fun _ => 0))), (q8, .inl (cI, 24, .inl (fun _ => 0))), (q9, .inl (cI, 24, .inl (fun _ => 0))), (q10, .inl (cI, 5, .inl (fun _ => 0))), (q11, .inl (cT, 4, .inr (.inr (.inr (.inr (va_up (va_up (va_up (va_up (fun _ => none) 0 (some q12)) 1 (some q15)) 2 (some q18)) 3 (some q21))))))), (q12, .inr (1, [.ref q13, .ref q14, .int 1])), (q13, .inl (cI, 24, .inl (fun _ => 0))), (q14, .inl (cI, 24, .inl (fun _ => 0))), (q15, .inr (1, [.ref q16, .ref q17, .int 1])), (q16, .inl (cI, 24, .inl (fun _ => 0))), (q17, .inl (cI, 24, .inl (fun _ => 0))), (q18, .inr (1, [.ref q19, .ref q20, .int 1])), (q19, .inl (cI, 24, .inl (fun _ => 0))), (q20, .inl (cI, 24, .inl (fun _ => 0))), (q21, .inr (1, [.ref q22, .ref q23, .int 1])), (q22, .inl (cI, 24, .inl (fun _ => 0))), (q23, .inl (cI, 24, .inl (fun _ => 0)))] := hD
  refine lv_iinc (v := 4) (lv' := [(1, .int 4), (0, .ref h0)]) hx hb dX6_init_70 hl (k := 0) rfl (by decide) (by decide) rfl (fun ls hl => ?_)
  refine lv_goto (tgt := 48) hx hb dX6_init_73 (by decide) ?_
  refine lv_iload_n hx hb dX6_init_48 rfl (lv_at hl 0 rfl) ?_
  refine lv_aload_n hx hb dX6_init_49 rfl (lv_at hl 1 rfl) ?_
  refine va_get (D := D) (ci := 3) (v := .ref q11) (C := RX6) (T := TX6) (N := 5) hx hb hts wi_X6_init_X6 hown hK hP 0 rfl rfl 1 (by decide) (hts _ wm_X6_init_19) (fun _ h9 => h9) rfl dX6_init_50 ?_
  refine va_alen hx hb hK hP 11 1 rfl rfl (v := 4) rfl dX6_init_53 ?_
  refine lv_icmp_ge (tgt := 76) hx hb dX6_init_54 (by decide) (fun _ => ?_) (fun c9 => absurd (by decide) c9)
  exact W.vret hx hb hr (fun t ht hW => ⟨⟨(), rfl, trivial, q1, q2, q3, q4, q5, q6, q7, q8, q9, q10, q11, q12, q13, q14, q15, q16, q17, q18, q19, q20, q21, q22, q23, by rw [ht]; exact hP, hD⟩, hS.F ht⟩) hS.2.2 dX6_init_76 (hlocks := hlk)
theorem wm_X7_init_0 : Cond.methodLink RX7 1 objectInit ∈ wsX7_init := by decide +kernel
theorem wm_X7_init_1 : Cond.instanceMethod objectInit ∈ wsX7_init := by decide +kernel
theorem wm_X7_init_2 : Cond.code objectInit ⟨#[0xb1]⟩ 1 none ∈ wsX7_init := by decide +kernel
theorem wm_X7_init_3 : Cond.arrayClass .int ∈ wsX7_init := by decide +kernel
theorem wm_X7_init_4 : Cond.fieldLink RX7 7 "SixtyTabletModel" "product" "[I" ∈ wsX7_init := by decide +kernel
theorem wm_X7_init_5 : Cond.fieldLink RX7 13 "SixtyTabletModel" "place" "[I" ∈ wsX7_init := by decide +kernel
theorem wm_X7_init_6 : Cond.fieldLink RX7 16 "SixtyTabletModel" "ofX" "[I" ∈ wsX7_init := by decide +kernel
theorem wm_X7_init_7 : Cond.fieldLink RX7 19 "SixtyTabletModel" "ofY" "[I" ∈ wsX7_init := by decide +kernel
theorem wm_X7_init_8 : Cond.fieldLink RX7 22 "SixtyTabletModel" "step" "[I" ∈ wsX7_init := by decide +kernel
theorem wm_X7_init_9 : Cond.fieldLink RX7 25 "SixtyTabletModel" "rows" "[I" ∈ wsX7_init := by decide +kernel
theorem wm_X7_init_10 : Cond.fieldLink RX7 28 "SixtyTabletModel" "cell" "[I" ∈ wsX7_init := by decide +kernel
theorem wm_X7_init_11 : Cond.fieldLink RX7 31 "SixtyTabletModel" "overs" "[I" ∈ wsX7_init := by decide +kernel
theorem wm_X7_init_12 : Cond.fieldLink RX7 34 "SixtyTabletModel" "sure" "[I" ∈ wsX7_init := by decide +kernel
theorem wi_X7_init_X7 : ∀ w ∈ wsX70, w ∈ wsX7_init := by decide +kernel
abbrev rmX7_init : Room := { frames := 1, cells := 9, slots := 222, locals := 12 }
set_option maxHeartbeats 8000000 in
set_option maxRecDepth 100000 in
theorem ctX7_init (l : Launch) (D : va_G) (cI cT : ClassId) (h0 sz : Nat) : Met l yX7_init wsX7_init rmX7_init (va_Pc [.ref h0] (fun U => U.heap.size = sz ∧ va_P D vwCl [(h0, .inr (4, [.int 0, .int 0, .null, .null, .null, .null, .int 0, .null, .null, .null, .null, .null]))] U.heap ∧ va_K D vwCl (kTy cI cT) U ∧ va_D (fun _ => True) [(h0, .inr (4, [.int 0, .int 0, .null, .null, .null, .null, .int 0, .null, .null, .null, .null, .null]))])) (va_Qv (fun _ : Unit => True) (fun _ t => ∃ q1 q2 q3 q4 q5 q6 q7 q8 q9 : Nat, va_P D vwCl [(h0, .inr (4, [.int 0, .int 0, .ref q1, .ref q2, .ref q3, .ref q4, .int 0, .ref q5, .ref q6, .ref q7, .ref q8, .ref q9])), (q1, .inl (cI, 16, .inl (fun _ => 0))), (q2, .inl (cI, 16, .inl (fun _ => 0))), (q3, .inl (cI, 16, .inl (fun _ => 0))), (q4, .inl (cI, 16, .inl (fun _ => 0))), (q5, .inl (cI, 5, .inl (fun _ => 0))), (q6, .inl (cI, 4, .inl (upd (upd (upd (upd (fun _ => 0) 0 1) 1 1) 2 1) 3 1))), (q7, .inl (cI, 96, .inl (fun _ => 0))), (q8, .inl (cI, 29, .inl (fun _ => 0))), (q9, .inl (cI, 24, .inl (fun _ => 0)))] t.heap ∧ va_D (va_A [(h0, .inr (4, [.int 0, .int 0, .null, .null, .null, .null, .int 0, .null, .null, .null, .null, .null]))] sz) [(h0, .inr (4, [.int 0, .int 0, .ref q1, .ref q2, .ref q3, .ref q4, .int 0, .ref q5, .ref q6, .ref q7, .ref q8, .ref q9])), (q1, .inl (cI, 16, .inl (fun _ => 0))), (q2, .inl (cI, 16, .inl (fun _ => 0))), (q3, .inl (cI, 16, .inl (fun _ => 0))), (q4, .inl (cI, 16, .inl (fun _ => 0))), (q5, .inl (cI, 5, .inl (fun _ => 0))), (q6, .inl (cI, 4, .inl (upd (upd (upd (upd (fun _ => 0) 0 1) 1 1) 2 1) 3 1))), (q7, .inl (cI, 96, .inl (fun _ => 0))), (q8, .inl (cI, 29, .inl (fun _ => 0))), (q9, .inl (cI, 24, .inl (fun _ => 0)))]) (va_A [(h0, .inr (4, [.int 0, .int 0, .null, .null, .null, .null, .int 0, .null, .null, .null, .null, .null]))] sz)) 9 222 (va_A [(h0, .inr (4, [.int 0, .int 0, .null, .null, .null, .null, .int 0, .null, .null, .null, .null, .null]))] sz) := by
  refine km (by decide) rfl (Nat.le_of_ble_eq_true rfl) (fun p e s m below meth c ls C hB hl => ?_)
  obtain ⟨hx, hb, hml, hown, hts, hr, hlk, hin⟩ := C
  obtain ⟨hsz, hP, hK, hD0⟩ := hB
  subst hsz
  have hD := hD0.self (sz := s.heap.size)
  generalize hAe : va_A [(h0, .inr (4, [.int 0, .int 0, .null, .null, .null, .null, .int 0, .null, .null, .null, .null, .null]))] s.heap.size = A at hD ⊢
  have hA : ∀ q : Nat, s.heap.size ≤ q → A q := fun q h => by rw [← hAe]; exact Or.inr h
  have hS : va_S A s.heap s.heap [] := va_S.rf
  have hl : lv_has ls 2 [(0, .ref h0)] := hl
  refine lv_aload_n hx hb dX7_init_0 rfl (lv_at hl 0 rfl) ?_
  refine W.objInit hx hb hown (hts _ wm_X7_init_0) (hts _ wm_X7_init_1) (hts _ wm_X7_init_2) rfl (by rw [hml]; exact hl.1) rfl dX7_init_1 (Nat.le_of_ble_eq_true rfl) (Nat.le_of_ble_eq_true rfl) ?_
  refine W.eq (g2 := F0 m 4 ls []) rfl ?_
  refine lv_aload_n hx hb dX7_init_4 rfl (lv_at hl 0 rfl) ?_
  refine lv_bipush (v := 16) hx hb dX7_init_5 (by decide) ?_
  refine va_newa (atype := .int) (ty := .int) (a0 := (16, .inl (fun _ => 0))) hx hb (hts _ wm_X7_init_3) rfl hK hP hD hS hA (fun _ => rfl) (by decide) (by decide) (by decide) (Nat.le_of_ble_eq_true rfl) (Nat.le_of_ble_eq_true rfl) dX7_init_7 (fun q1 cA H hK1 hP hD hS => ?_)
  have eA := kcI hK1
  rw [eA] at hP hD
  clear hK1 eA
  have hP : va_P D vwCl [(h0, .inr (4, [.int 0, .int 0, .null, .null, .null, .null, .int 0, .null, .null, .null, .null, .null])), (q1, .inl (cI, 16, .inl (fun _ => 0)))] H := hP
  have hD : va_D A [(h0, .inr (4, [.int 0, .int 0, .null, .null, .null, .null, .int 0, .null, .null, .null, .null, .null])), (q1, .inl (cI, 16, .inl (fun _ => 0)))] := hD
  refine W.widen (k := 1) (n := 16) (by omega) (by omega) ?_
  refine va_putF (D := D) (ci := 4) (v := .ref q1) (ty := .array .int) (C := RX7) (T := TX7) (N := 12) hx hb hts wi_X7_init_X7 tyX7 tyX7_ok nmX7 hown hK hP hD hS 0 rfl rfl 2 (by decide) (hts _ wm_X7_init_4) (fun _ h9 => h9) rfl hin rfl (by decide +kernel) rfl rfl (Nat.le_of_ble_eq_true rfl) dX7_init_9 (fun H locs hP hD hS => ?_)
  have hP : va_P D vwCl [(h0, .inr (4, [.int 0, .int 0, .ref q1, .null, .null, .null, .int 0, .null, .null, .null, .null, .null])), (q1, .inl (cI, 16, .inl (fun _ => 0)))] H := hP
  have hD : va_D A [(h0, .inr (4, [.int 0, .int 0, .ref q1, .null, .null, .null, .int 0, .null, .null, .null, .null, .null])), (q1, .inl (cI, 16, .inl (fun _ => 0)))] := hD
  refine lv_aload_n hx hb dX7_init_12 rfl (lv_at hl 0 rfl) ?_
  refine lv_bipush (v := 16) hx hb dX7_init_13 (by decide) ?_
  refine va_newa (atype := .int) (ty := .int) (a0 := (16, .inl (fun _ => 0))) hx hb (hts _ wm_X7_init_3) rfl hK hP hD hS hA (fun _ => rfl) (by decide) (by decide) (by decide) (Nat.le_of_ble_eq_true rfl) (Nat.le_of_ble_eq_true rfl) dX7_init_15 (fun q2 cA H hK1 hP hD hS => ?_)
  have eA := kcI hK1
  rw [eA] at hP hD
  clear hK1 eA
  have hP : va_P D vwCl [(h0, .inr (4, [.int 0, .int 0, .ref q1, .null, .null, .null, .int 0, .null, .null, .null, .null, .null])), (q1, .inl (cI, 16, .inl (fun _ => 0))), (q2, .inl (cI, 16, .inl (fun _ => 0)))] H := hP
  have hD : va_D A [(h0, .inr (4, [.int 0, .int 0, .ref q1, .null, .null, .null, .int 0, .null, .null, .null, .null, .null])), (q1, .inl (cI, 16, .inl (fun _ => 0))), (q2, .inl (cI, 16, .inl (fun _ => 0)))] := hD
  refine W.widen (k := 2) (n := 32) (by omega) (by omega) ?_
  refine va_putF (D := D) (ci := 4) (v := .ref q2) (ty := .array .int) (C := RX7) (T := TX7) (N := 12) hx hb hts wi_X7_init_X7 tyX7 tyX7_ok nmX7 hown hK hP hD hS 0 rfl rfl 3 (by decide) (hts _ wm_X7_init_5) (fun _ h9 => h9) rfl hin rfl (by decide +kernel) rfl rfl (Nat.le_of_ble_eq_true rfl) dX7_init_17 (fun H locs hP hD hS => ?_)
  have hP : va_P D vwCl [(h0, .inr (4, [.int 0, .int 0, .ref q1, .ref q2, .null, .null, .int 0, .null, .null, .null, .null, .null])), (q1, .inl (cI, 16, .inl (fun _ => 0))), (q2, .inl (cI, 16, .inl (fun _ => 0)))] H := hP
  have hD : va_D A [(h0, .inr (4, [.int 0, .int 0, .ref q1, .ref q2, .null, .null, .int 0, .null, .null, .null, .null, .null])), (q1, .inl (cI, 16, .inl (fun _ => 0))), (q2, .inl (cI, 16, .inl (fun _ => 0)))] := hD
  refine lv_aload_n hx hb dX7_init_20 rfl (lv_at hl 0 rfl) ?_
  refine lv_bipush (v := 16) hx hb dX7_init_21 (by decide) ?_
  refine va_newa (atype := .int) (ty := .int) (a0 := (16, .inl (fun _ => 0))) hx hb (hts _ wm_X7_init_3) rfl hK hP hD hS hA (fun _ => rfl) (by decide) (by decide) (by decide) (Nat.le_of_ble_eq_true rfl) (Nat.le_of_ble_eq_true rfl) dX7_init_23 (fun q3 cA H hK1 hP hD hS => ?_)
  have eA := kcI hK1
  rw [eA] at hP hD
  clear hK1 eA
  have hP : va_P D vwCl [(h0, .inr (4, [.int 0, .int 0, .ref q1, .ref q2, .null, .null, .int 0, .null, .null, .null, .null, .null])), (q1, .inl (cI, 16, .inl (fun _ => 0))), (q2, .inl (cI, 16, .inl (fun _ => 0))), (q3, .inl (cI, 16, .inl (fun _ => 0)))] H := hP
  have hD : va_D A [(h0, .inr (4, [.int 0, .int 0, .ref q1, .ref q2, .null, .null, .int 0, .null, .null, .null, .null, .null])), (q1, .inl (cI, 16, .inl (fun _ => 0))), (q2, .inl (cI, 16, .inl (fun _ => 0))), (q3, .inl (cI, 16, .inl (fun _ => 0)))] := hD
  refine W.widen (k := 3) (n := 48) (by omega) (by omega) ?_
  refine va_putF (D := D) (ci := 4) (v := .ref q3) (ty := .array .int) (C := RX7) (T := TX7) (N := 12) hx hb hts wi_X7_init_X7 tyX7 tyX7_ok nmX7 hown hK hP hD hS 0 rfl rfl 4 (by decide) (hts _ wm_X7_init_6) (fun _ h9 => h9) rfl hin rfl (by decide +kernel) rfl rfl (Nat.le_of_ble_eq_true rfl) dX7_init_25 (fun H locs hP hD hS => ?_)
  have hP : va_P D vwCl [(h0, .inr (4, [.int 0, .int 0, .ref q1, .ref q2, .ref q3, .null, .int 0, .null, .null, .null, .null, .null])), (q1, .inl (cI, 16, .inl (fun _ => 0))), (q2, .inl (cI, 16, .inl (fun _ => 0))), (q3, .inl (cI, 16, .inl (fun _ => 0)))] H := hP
  have hD : va_D A [(h0, .inr (4, [.int 0, .int 0, .ref q1, .ref q2, .ref q3, .null, .int 0, .null, .null, .null, .null, .null])), (q1, .inl (cI, 16, .inl (fun _ => 0))), (q2, .inl (cI, 16, .inl (fun _ => 0))), (q3, .inl (cI, 16, .inl (fun _ => 0)))] := hD
  refine lv_aload_n hx hb dX7_init_28 rfl (lv_at hl 0 rfl) ?_
  refine lv_bipush (v := 16) hx hb dX7_init_29 (by decide) ?_
  refine va_newa (atype := .int) (ty := .int) (a0 := (16, .inl (fun _ => 0))) hx hb (hts _ wm_X7_init_3) rfl hK hP hD hS hA (fun _ => rfl) (by decide) (by decide) (by decide) (Nat.le_of_ble_eq_true rfl) (Nat.le_of_ble_eq_true rfl) dX7_init_31 (fun q4 cA H hK1 hP hD hS => ?_)
  have eA := kcI hK1
  rw [eA] at hP hD
  clear hK1 eA
  have hP : va_P D vwCl [(h0, .inr (4, [.int 0, .int 0, .ref q1, .ref q2, .ref q3, .null, .int 0, .null, .null, .null, .null, .null])), (q1, .inl (cI, 16, .inl (fun _ => 0))), (q2, .inl (cI, 16, .inl (fun _ => 0))), (q3, .inl (cI, 16, .inl (fun _ => 0))), (q4, .inl (cI, 16, .inl (fun _ => 0)))] H := hP
  have hD : va_D A [(h0, .inr (4, [.int 0, .int 0, .ref q1, .ref q2, .ref q3, .null, .int 0, .null, .null, .null, .null, .null])), (q1, .inl (cI, 16, .inl (fun _ => 0))), (q2, .inl (cI, 16, .inl (fun _ => 0))), (q3, .inl (cI, 16, .inl (fun _ => 0))), (q4, .inl (cI, 16, .inl (fun _ => 0)))] := hD
  refine W.widen (k := 4) (n := 64) (by omega) (by omega) ?_
  refine va_putF (D := D) (ci := 4) (v := .ref q4) (ty := .array .int) (C := RX7) (T := TX7) (N := 12) hx hb hts wi_X7_init_X7 tyX7 tyX7_ok nmX7 hown hK hP hD hS 0 rfl rfl 5 (by decide) (hts _ wm_X7_init_7) (fun _ h9 => h9) rfl hin rfl (by decide +kernel) rfl rfl (Nat.le_of_ble_eq_true rfl) dX7_init_33 (fun H locs hP hD hS => ?_)
  have hP : va_P D vwCl [(h0, .inr (4, [.int 0, .int 0, .ref q1, .ref q2, .ref q3, .ref q4, .int 0, .null, .null, .null, .null, .null])), (q1, .inl (cI, 16, .inl (fun _ => 0))), (q2, .inl (cI, 16, .inl (fun _ => 0))), (q3, .inl (cI, 16, .inl (fun _ => 0))), (q4, .inl (cI, 16, .inl (fun _ => 0)))] H := hP
  have hD : va_D A [(h0, .inr (4, [.int 0, .int 0, .ref q1, .ref q2, .ref q3, .ref q4, .int 0, .null, .null, .null, .null, .null])), (q1, .inl (cI, 16, .inl (fun _ => 0))), (q2, .inl (cI, 16, .inl (fun _ => 0))), (q3, .inl (cI, 16, .inl (fun _ => 0))), (q4, .inl (cI, 16, .inl (fun _ => 0)))] := hD
  refine lv_aload_n hx hb dX7_init_36 rfl (lv_at hl 0 rfl) ?_
  refine lv_iconst (v := 5) hx hb dX7_init_37 (by decide) ?_
  refine va_newa (atype := .int) (ty := .int) (a0 := (5, .inl (fun _ => 0))) hx hb (hts _ wm_X7_init_3) rfl hK hP hD hS hA (fun _ => rfl) (by decide) (by decide) (by decide) (Nat.le_of_ble_eq_true rfl) (Nat.le_of_ble_eq_true rfl) dX7_init_38 (fun q5 cA H hK1 hP hD hS => ?_)
  have eA := kcI hK1
  rw [eA] at hP hD
  clear hK1 eA
  have hP : va_P D vwCl [(h0, .inr (4, [.int 0, .int 0, .ref q1, .ref q2, .ref q3, .ref q4, .int 0, .null, .null, .null, .null, .null])), (q1, .inl (cI, 16, .inl (fun _ => 0))), (q2, .inl (cI, 16, .inl (fun _ => 0))), (q3, .inl (cI, 16, .inl (fun _ => 0))), (q4, .inl (cI, 16, .inl (fun _ => 0))), (q5, .inl (cI, 5, .inl (fun _ => 0)))] H := hP
  have hD : va_D A [(h0, .inr (4, [.int 0, .int 0, .ref q1, .ref q2, .ref q3, .ref q4, .int 0, .null, .null, .null, .null, .null])), (q1, .inl (cI, 16, .inl (fun _ => 0))), (q2, .inl (cI, 16, .inl (fun _ => 0))), (q3, .inl (cI, 16, .inl (fun _ => 0))), (q4, .inl (cI, 16, .inl (fun _ => 0))), (q5, .inl (cI, 5, .inl (fun _ => 0)))] := hD
  refine W.widen (k := 5) (n := 69) (by omega) (by omega) ?_
  refine va_putF (D := D) (ci := 4) (v := .ref q5) (ty := .array .int) (C := RX7) (T := TX7) (N := 12) hx hb hts wi_X7_init_X7 tyX7 tyX7_ok nmX7 hown hK hP hD hS 0 rfl rfl 7 (by decide) (hts _ wm_X7_init_8) (fun _ h9 => h9) rfl hin rfl (by decide +kernel) rfl rfl (Nat.le_of_ble_eq_true rfl) dX7_init_40 (fun H locs hP hD hS => ?_)
  have hP : va_P D vwCl [(h0, .inr (4, [.int 0, .int 0, .ref q1, .ref q2, .ref q3, .ref q4, .int 0, .ref q5, .null, .null, .null, .null])), (q1, .inl (cI, 16, .inl (fun _ => 0))), (q2, .inl (cI, 16, .inl (fun _ => 0))), (q3, .inl (cI, 16, .inl (fun _ => 0))), (q4, .inl (cI, 16, .inl (fun _ => 0))), (q5, .inl (cI, 5, .inl (fun _ => 0)))] H := hP
  have hD : va_D A [(h0, .inr (4, [.int 0, .int 0, .ref q1, .ref q2, .ref q3, .ref q4, .int 0, .ref q5, .null, .null, .null, .null])), (q1, .inl (cI, 16, .inl (fun _ => 0))), (q2, .inl (cI, 16, .inl (fun _ => 0))), (q3, .inl (cI, 16, .inl (fun _ => 0))), (q4, .inl (cI, 16, .inl (fun _ => 0))), (q5, .inl (cI, 5, .inl (fun _ => 0)))] := hD
  refine lv_aload_n hx hb dX7_init_43 rfl (lv_at hl 0 rfl) ?_
  refine lv_iconst (v := 4) hx hb dX7_init_44 (by decide) ?_
  refine va_newa (atype := .int) (ty := .int) (a0 := (4, .inl (fun _ => 0))) hx hb (hts _ wm_X7_init_3) rfl hK hP hD hS hA (fun _ => rfl) (by decide) (by decide) (by decide) (Nat.le_of_ble_eq_true rfl) (Nat.le_of_ble_eq_true rfl) dX7_init_45 (fun q6 cA H hK1 hP hD hS => ?_)
  have eA := kcI hK1
  rw [eA] at hP hD
  clear hK1 eA
  have hP : va_P D vwCl [(h0, .inr (4, [.int 0, .int 0, .ref q1, .ref q2, .ref q3, .ref q4, .int 0, .ref q5, .null, .null, .null, .null])), (q1, .inl (cI, 16, .inl (fun _ => 0))), (q2, .inl (cI, 16, .inl (fun _ => 0))), (q3, .inl (cI, 16, .inl (fun _ => 0))), (q4, .inl (cI, 16, .inl (fun _ => 0))), (q5, .inl (cI, 5, .inl (fun _ => 0))), (q6, .inl (cI, 4, .inl (fun _ => 0)))] H := hP
  have hD : va_D A [(h0, .inr (4, [.int 0, .int 0, .ref q1, .ref q2, .ref q3, .ref q4, .int 0, .ref q5, .null, .null, .null, .null])), (q1, .inl (cI, 16, .inl (fun _ => 0))), (q2, .inl (cI, 16, .inl (fun _ => 0))), (q3, .inl (cI, 16, .inl (fun _ => 0))), (q4, .inl (cI, 16, .inl (fun _ => 0))), (q5, .inl (cI, 5, .inl (fun _ => 0))), (q6, .inl (cI, 4, .inl (fun _ => 0)))] := hD
  refine W.widen (k := 6) (n := 73) (by omega) (by omega) ?_
  refine va_putF (D := D) (ci := 4) (v := .ref q6) (ty := .array .int) (C := RX7) (T := TX7) (N := 12) hx hb hts wi_X7_init_X7 tyX7 tyX7_ok nmX7 hown hK hP hD hS 0 rfl rfl 8 (by decide) (hts _ wm_X7_init_9) (fun _ h9 => h9) rfl hin rfl (by decide +kernel) rfl rfl (Nat.le_of_ble_eq_true rfl) dX7_init_47 (fun H locs hP hD hS => ?_)
  have hP : va_P D vwCl [(h0, .inr (4, [.int 0, .int 0, .ref q1, .ref q2, .ref q3, .ref q4, .int 0, .ref q5, .ref q6, .null, .null, .null])), (q1, .inl (cI, 16, .inl (fun _ => 0))), (q2, .inl (cI, 16, .inl (fun _ => 0))), (q3, .inl (cI, 16, .inl (fun _ => 0))), (q4, .inl (cI, 16, .inl (fun _ => 0))), (q5, .inl (cI, 5, .inl (fun _ => 0))), (q6, .inl (cI, 4, .inl (fun _ => 0)))] H := hP
  have hD : va_D A [(h0, .inr (4, [.int 0, .int 0, .ref q1, .ref q2, .ref q3, .ref q4, .int 0, .ref q5, .ref q6, .null, .null, .null])), (q1, .inl (cI, 16, .inl (fun _ => 0))), (q2, .inl (cI, 16, .inl (fun _ => 0))), (q3, .inl (cI, 16, .inl (fun _ => 0))), (q4, .inl (cI, 16, .inl (fun _ => 0))), (q5, .inl (cI, 5, .inl (fun _ => 0))), (q6, .inl (cI, 4, .inl (fun _ => 0)))] := hD
  refine lv_aload_n hx hb dX7_init_50 rfl (lv_at hl 0 rfl) ?_
  refine lv_bipush (v := 96) hx hb dX7_init_51 (by decide) ?_
  refine va_newa (atype := .int) (ty := .int) (a0 := (96, .inl (fun _ => 0))) hx hb (hts _ wm_X7_init_3) rfl hK hP hD hS hA (fun _ => rfl) (by decide) (by decide) (by decide) (Nat.le_of_ble_eq_true rfl) (Nat.le_of_ble_eq_true rfl) dX7_init_53 (fun q7 cA H hK1 hP hD hS => ?_)
  have eA := kcI hK1
  rw [eA] at hP hD
  clear hK1 eA
  have hP : va_P D vwCl [(h0, .inr (4, [.int 0, .int 0, .ref q1, .ref q2, .ref q3, .ref q4, .int 0, .ref q5, .ref q6, .null, .null, .null])), (q1, .inl (cI, 16, .inl (fun _ => 0))), (q2, .inl (cI, 16, .inl (fun _ => 0))), (q3, .inl (cI, 16, .inl (fun _ => 0))), (q4, .inl (cI, 16, .inl (fun _ => 0))), (q5, .inl (cI, 5, .inl (fun _ => 0))), (q6, .inl (cI, 4, .inl (fun _ => 0))), (q7, .inl (cI, 96, .inl (fun _ => 0)))] H := hP
  have hD : va_D A [(h0, .inr (4, [.int 0, .int 0, .ref q1, .ref q2, .ref q3, .ref q4, .int 0, .ref q5, .ref q6, .null, .null, .null])), (q1, .inl (cI, 16, .inl (fun _ => 0))), (q2, .inl (cI, 16, .inl (fun _ => 0))), (q3, .inl (cI, 16, .inl (fun _ => 0))), (q4, .inl (cI, 16, .inl (fun _ => 0))), (q5, .inl (cI, 5, .inl (fun _ => 0))), (q6, .inl (cI, 4, .inl (fun _ => 0))), (q7, .inl (cI, 96, .inl (fun _ => 0)))] := hD
  refine W.widen (k := 7) (n := 169) (by omega) (by omega) ?_
  refine va_putF (D := D) (ci := 4) (v := .ref q7) (ty := .array .int) (C := RX7) (T := TX7) (N := 12) hx hb hts wi_X7_init_X7 tyX7 tyX7_ok nmX7 hown hK hP hD hS 0 rfl rfl 9 (by decide) (hts _ wm_X7_init_10) (fun _ h9 => h9) rfl hin rfl (by decide +kernel) rfl rfl (Nat.le_of_ble_eq_true rfl) dX7_init_55 (fun H locs hP hD hS => ?_)
  have hP : va_P D vwCl [(h0, .inr (4, [.int 0, .int 0, .ref q1, .ref q2, .ref q3, .ref q4, .int 0, .ref q5, .ref q6, .ref q7, .null, .null])), (q1, .inl (cI, 16, .inl (fun _ => 0))), (q2, .inl (cI, 16, .inl (fun _ => 0))), (q3, .inl (cI, 16, .inl (fun _ => 0))), (q4, .inl (cI, 16, .inl (fun _ => 0))), (q5, .inl (cI, 5, .inl (fun _ => 0))), (q6, .inl (cI, 4, .inl (fun _ => 0))), (q7, .inl (cI, 96, .inl (fun _ => 0)))] H := hP
  have hD : va_D A [(h0, .inr (4, [.int 0, .int 0, .ref q1, .ref q2, .ref q3, .ref q4, .int 0, .ref q5, .ref q6, .ref q7, .null, .null])), (q1, .inl (cI, 16, .inl (fun _ => 0))), (q2, .inl (cI, 16, .inl (fun _ => 0))), (q3, .inl (cI, 16, .inl (fun _ => 0))), (q4, .inl (cI, 16, .inl (fun _ => 0))), (q5, .inl (cI, 5, .inl (fun _ => 0))), (q6, .inl (cI, 4, .inl (fun _ => 0))), (q7, .inl (cI, 96, .inl (fun _ => 0)))] := hD
  refine lv_aload_n hx hb dX7_init_58 rfl (lv_at hl 0 rfl) ?_
  refine lv_bipush (v := 29) hx hb dX7_init_59 (by decide) ?_
  refine va_newa (atype := .int) (ty := .int) (a0 := (29, .inl (fun _ => 0))) hx hb (hts _ wm_X7_init_3) rfl hK hP hD hS hA (fun _ => rfl) (by decide) (by decide) (by decide) (Nat.le_of_ble_eq_true rfl) (Nat.le_of_ble_eq_true rfl) dX7_init_61 (fun q8 cA H hK1 hP hD hS => ?_)
  have eA := kcI hK1
  rw [eA] at hP hD
  clear hK1 eA
  have hP : va_P D vwCl [(h0, .inr (4, [.int 0, .int 0, .ref q1, .ref q2, .ref q3, .ref q4, .int 0, .ref q5, .ref q6, .ref q7, .null, .null])), (q1, .inl (cI, 16, .inl (fun _ => 0))), (q2, .inl (cI, 16, .inl (fun _ => 0))), (q3, .inl (cI, 16, .inl (fun _ => 0))), (q4, .inl (cI, 16, .inl (fun _ => 0))), (q5, .inl (cI, 5, .inl (fun _ => 0))), (q6, .inl (cI, 4, .inl (fun _ => 0))), (q7, .inl (cI, 96, .inl (fun _ => 0))), (q8, .inl (cI, 29, .inl (fun _ => 0)))] H := hP
  have hD : va_D A [(h0, .inr (4, [.int 0, .int 0, .ref q1, .ref q2, .ref q3, .ref q4, .int 0, .ref q5, .ref q6, .ref q7, .null, .null])), (q1, .inl (cI, 16, .inl (fun _ => 0))), (q2, .inl (cI, 16, .inl (fun _ => 0))), (q3, .inl (cI, 16, .inl (fun _ => 0))), (q4, .inl (cI, 16, .inl (fun _ => 0))), (q5, .inl (cI, 5, .inl (fun _ => 0))), (q6, .inl (cI, 4, .inl (fun _ => 0))), (q7, .inl (cI, 96, .inl (fun _ => 0))), (q8, .inl (cI, 29, .inl (fun _ => 0)))] := hD
  refine W.widen (k := 8) (n := 198) (by omega) (by omega) ?_
  refine va_putF (D := D) (ci := 4) (v := .ref q8) (ty := .array .int) (C := RX7) (T := TX7) (N := 12) hx hb hts wi_X7_init_X7 tyX7 tyX7_ok nmX7 hown hK hP hD hS 0 rfl rfl 10 (by decide) (hts _ wm_X7_init_11) (fun _ h9 => h9) rfl hin rfl (by decide +kernel) rfl rfl (Nat.le_of_ble_eq_true rfl) dX7_init_63 (fun H locs hP hD hS => ?_)
  have hP : va_P D vwCl [(h0, .inr (4, [.int 0, .int 0, .ref q1, .ref q2, .ref q3, .ref q4, .int 0, .ref q5, .ref q6, .ref q7, .ref q8, .null])), (q1, .inl (cI, 16, .inl (fun _ => 0))), (q2, .inl (cI, 16, .inl (fun _ => 0))), (q3, .inl (cI, 16, .inl (fun _ => 0))), (q4, .inl (cI, 16, .inl (fun _ => 0))), (q5, .inl (cI, 5, .inl (fun _ => 0))), (q6, .inl (cI, 4, .inl (fun _ => 0))), (q7, .inl (cI, 96, .inl (fun _ => 0))), (q8, .inl (cI, 29, .inl (fun _ => 0)))] H := hP
  have hD : va_D A [(h0, .inr (4, [.int 0, .int 0, .ref q1, .ref q2, .ref q3, .ref q4, .int 0, .ref q5, .ref q6, .ref q7, .ref q8, .null])), (q1, .inl (cI, 16, .inl (fun _ => 0))), (q2, .inl (cI, 16, .inl (fun _ => 0))), (q3, .inl (cI, 16, .inl (fun _ => 0))), (q4, .inl (cI, 16, .inl (fun _ => 0))), (q5, .inl (cI, 5, .inl (fun _ => 0))), (q6, .inl (cI, 4, .inl (fun _ => 0))), (q7, .inl (cI, 96, .inl (fun _ => 0))), (q8, .inl (cI, 29, .inl (fun _ => 0)))] := hD
  refine lv_aload_n hx hb dX7_init_66 rfl (lv_at hl 0 rfl) ?_
  refine lv_bipush (v := 24) hx hb dX7_init_67 (by decide) ?_
  refine va_newa (atype := .int) (ty := .int) (a0 := (24, .inl (fun _ => 0))) hx hb (hts _ wm_X7_init_3) rfl hK hP hD hS hA (fun _ => rfl) (by decide) (by decide) (by decide) (Nat.le_of_ble_eq_true rfl) (Nat.le_of_ble_eq_true rfl) dX7_init_69 (fun q9 cA H hK1 hP hD hS => ?_)
  have eA := kcI hK1
  rw [eA] at hP hD
  clear hK1 eA
  have hP : va_P D vwCl [(h0, .inr (4, [.int 0, .int 0, .ref q1, .ref q2, .ref q3, .ref q4, .int 0, .ref q5, .ref q6, .ref q7, .ref q8, .null])), (q1, .inl (cI, 16, .inl (fun _ => 0))), (q2, .inl (cI, 16, .inl (fun _ => 0))), (q3, .inl (cI, 16, .inl (fun _ => 0))), (q4, .inl (cI, 16, .inl (fun _ => 0))), (q5, .inl (cI, 5, .inl (fun _ => 0))), (q6, .inl (cI, 4, .inl (fun _ => 0))), (q7, .inl (cI, 96, .inl (fun _ => 0))), (q8, .inl (cI, 29, .inl (fun _ => 0))), (q9, .inl (cI, 24, .inl (fun _ => 0)))] H := hP
  have hD : va_D A [(h0, .inr (4, [.int 0, .int 0, .ref q1, .ref q2, .ref q3, .ref q4, .int 0, .ref q5, .ref q6, .ref q7, .ref q8, .null])), (q1, .inl (cI, 16, .inl (fun _ => 0))), (q2, .inl (cI, 16, .inl (fun _ => 0))), (q3, .inl (cI, 16, .inl (fun _ => 0))), (q4, .inl (cI, 16, .inl (fun _ => 0))), (q5, .inl (cI, 5, .inl (fun _ => 0))), (q6, .inl (cI, 4, .inl (fun _ => 0))), (q7, .inl (cI, 96, .inl (fun _ => 0))), (q8, .inl (cI, 29, .inl (fun _ => 0))), (q9, .inl (cI, 24, .inl (fun _ => 0)))] := hD
  refine W.widen (k := 9) (n := 222) (by omega) (by omega) ?_
  refine va_putF (D := D) (ci := 4) (v := .ref q9) (ty := .array .int) (C := RX7) (T := TX7) (N := 12) hx hb hts wi_X7_init_X7 tyX7 tyX7_ok nmX7 hown hK hP hD hS 0 rfl rfl 11 (by decide) (hts _ wm_X7_init_12) (fun _ h9 => h9) rfl hin rfl (by decide +kernel) rfl rfl (Nat.le_of_ble_eq_true rfl) dX7_init_71 (fun H locs hP hD hS => ?_)
  have hP : va_P D vwCl [(h0, .inr (4, [.int 0, .int 0, .ref q1, .ref q2, .ref q3, .ref q4, .int 0, .ref q5, .ref q6, .ref q7, .ref q8, .ref q9])), (q1, .inl (cI, 16, .inl (fun _ => 0))), (q2, .inl (cI, 16, .inl (fun _ => 0))), (q3, .inl (cI, 16, .inl (fun _ => 0))), (q4, .inl (cI, 16, .inl (fun _ => 0))), (q5, .inl (cI, 5, .inl (fun _ => 0))), (q6, .inl (cI, 4, .inl (fun _ => 0))), (q7, .inl (cI, 96, .inl (fun _ => 0))), (q8, .inl (cI, 29, .inl (fun _ => 0))), (q9, .inl (cI, 24, .inl (fun _ => 0)))] H := hP
  have hD : va_D A [(h0, .inr (4, [.int 0, .int 0, .ref q1, .ref q2, .ref q3, .ref q4, .int 0, .ref q5, .ref q6, .ref q7, .ref q8, .ref q9])), (q1, .inl (cI, 16, .inl (fun _ => 0))), (q2, .inl (cI, 16, .inl (fun _ => 0))), (q3, .inl (cI, 16, .inl (fun _ => 0))), (q4, .inl (cI, 16, .inl (fun _ => 0))), (q5, .inl (cI, 5, .inl (fun _ => 0))), (q6, .inl (cI, 4, .inl (fun _ => 0))), (q7, .inl (cI, 96, .inl (fun _ => 0))), (q8, .inl (cI, 29, .inl (fun _ => 0))), (q9, .inl (cI, 24, .inl (fun _ => 0)))] := hD
  refine lv_iconst (v := 0) hx hb dX7_init_74 (by decide) ?_
  refine lv_istore_n (lv' := [(1, .int 0), (0, .ref h0)]) hx hb dX7_init_75 rfl hl (by decide) rfl (fun ls hl => ?_)
  refine lv_iload_n hx hb dX7_init_76 rfl (lv_at hl 0 rfl) ?_
  refine lv_iconst (v := 4) hx hb dX7_init_77 (by decide) ?_
  refine lv_icmp_ge (tgt := 94) hx hb dX7_init_78 (by decide) (fun c9 => absurd c9 (by decide)) (fun _ => ?_)
  refine lv_aload_n hx hb dX7_init_81 rfl (lv_at hl 1 rfl) ?_
  refine va_get (D := D) (ci := 4) (v := .ref q6) (C := RX7) (T := TX7) (N := 12) hx hb hts wi_X7_init_X7 hown hK hP 0 rfl rfl 8 (by decide) (hts _ wm_X7_init_9) (fun _ h9 => h9) rfl dX7_init_82 ?_
  refine lv_iload_n hx hb dX7_init_85 rfl (lv_at hl 0 rfl) ?_
  refine lv_iconst (v := 1) hx hb dX7_init_86 (by decide) ?_
  refine va_iast hx hb hK hP hD hS 6 0 rfl rfl (i := 0) (by unfold vp_in; decide) dX7_init_87 (fun H locs hP hD hS => ?_)
  have hP : va_P D vwCl [(h0, .inr (4, [.int 0, .int 0, .ref q1, .ref q2, .ref q3, .ref q4, .int 0, .ref q5, .ref q6, .ref q7, .ref q8, .ref q9])), (q1, .inl (cI, 16, .inl (fun _ => 0))), (q2, .inl (cI, 16, .inl (fun _ => 0))), (q3, .inl (cI, 16, .inl (fun _ => 0))), (q4, .inl (cI, 16, .inl (fun _ => 0))), (q5, .inl (cI, 5, .inl (fun _ => 0))), (q6, .inl (cI, 4, .inl (upd (fun _ => 0) 0 1))), (q7, .inl (cI, 96, .inl (fun _ => 0))), (q8, .inl (cI, 29, .inl (fun _ => 0))), (q9, .inl (cI, 24, .inl (fun _ => 0)))] H := hP
  have hD : va_D A [(h0, .inr (4, [.int 0, .int 0, .ref q1, .ref q2, .ref q3, .ref q4, .int 0, .ref q5, .ref q6, .ref q7, .ref q8, .ref q9])), (q1, .inl (cI, 16, .inl (fun _ => 0))), (q2, .inl (cI, 16, .inl (fun _ => 0))), (q3, .inl (cI, 16, .inl (fun _ => 0))), (q4, .inl (cI, 16, .inl (fun _ => 0))), (q5, .inl (cI, 5, .inl (fun _ => 0))), (q6, .inl (cI, 4, .inl (upd (fun _ => 0) 0 1))), (q7, .inl (cI, 96, .inl (fun _ => 0))), (q8, .inl (cI, 29, .inl (fun _ => 0))), (q9, .inl (cI, 24, .inl (fun _ => 0)))] := hD
  refine lv_iinc (v := 1) (lv' := [(1, .int 1), (0, .ref h0)]) hx hb dX7_init_88 hl (k := 0) rfl (by decide) (by decide) rfl (fun ls hl => ?_)
  refine lv_goto (tgt := 76) hx hb dX7_init_91 (by decide) ?_
  refine lv_iload_n hx hb dX7_init_76 rfl (lv_at hl 0 rfl) ?_
  refine lv_iconst (v := 4) hx hb dX7_init_77 (by decide) ?_
  refine lv_icmp_ge (tgt := 94) hx hb dX7_init_78 (by decide) (fun c9 => absurd c9 (by decide)) (fun _ => ?_)
  refine lv_aload_n hx hb dX7_init_81 rfl (lv_at hl 1 rfl) ?_
  refine va_get (D := D) (ci := 4) (v := .ref q6) (C := RX7) (T := TX7) (N := 12) hx hb hts wi_X7_init_X7 hown hK hP 0 rfl rfl 8 (by decide) (hts _ wm_X7_init_9) (fun _ h9 => h9) rfl dX7_init_82 ?_
  refine lv_iload_n hx hb dX7_init_85 rfl (lv_at hl 0 rfl) ?_
  refine lv_iconst (v := 1) hx hb dX7_init_86 (by decide) ?_
  refine va_iast hx hb hK hP hD hS 6 0 rfl rfl (i := 1) (by unfold vp_in; decide) dX7_init_87 (fun H locs hP hD hS => ?_)
  have hP : va_P D vwCl [(h0, .inr (4, [.int 0, .int 0, .ref q1, .ref q2, .ref q3, .ref q4, .int 0, .ref q5, .ref q6, .ref q7, .ref q8, .ref q9])), (q1, .inl (cI, 16, .inl (fun _ => 0))), (q2, .inl (cI, 16, .inl (fun _ => 0))), (q3, .inl (cI, 16, .inl (fun _ => 0))), (q4, .inl (cI, 16, .inl (fun _ => 0))), (q5, .inl (cI, 5, .inl (fun _ => 0))), (q6, .inl (cI, 4, .inl (upd (upd (fun _ => 0) 0 1) 1 1))), (q7, .inl (cI, 96, .inl (fun _ => 0))), (q8, .inl (cI, 29, .inl (fun _ => 0))), (q9, .inl (cI, 24, .inl (fun _ => 0)))] H := hP
  have hD : va_D A [(h0, .inr (4, [.int 0, .int 0, .ref q1, .ref q2, .ref q3, .ref q4, .int 0, .ref q5, .ref q6, .ref q7, .ref q8, .ref q9])), (q1, .inl (cI, 16, .inl (fun _ => 0))), (q2, .inl (cI, 16, .inl (fun _ => 0))), (q3, .inl (cI, 16, .inl (fun _ => 0))), (q4, .inl (cI, 16, .inl (fun _ => 0))), (q5, .inl (cI, 5, .inl (fun _ => 0))), (q6, .inl (cI, 4, .inl (upd (upd (fun _ => 0) 0 1) 1 1))), (q7, .inl (cI, 96, .inl (fun _ => 0))), (q8, .inl (cI, 29, .inl (fun _ => 0))), (q9, .inl (cI, 24, .inl (fun _ => 0)))] := hD
  refine lv_iinc (v := 2) (lv' := [(1, .int 2), (0, .ref h0)]) hx hb dX7_init_88 hl (k := 0) rfl (by decide) (by decide) rfl (fun ls hl => ?_)
  refine lv_goto (tgt := 76) hx hb dX7_init_91 (by decide) ?_
  refine lv_iload_n hx hb dX7_init_76 rfl (lv_at hl 0 rfl) ?_
  refine lv_iconst (v := 4) hx hb dX7_init_77 (by decide) ?_
  refine lv_icmp_ge (tgt := 94) hx hb dX7_init_78 (by decide) (fun c9 => absurd c9 (by decide)) (fun _ => ?_)
  refine lv_aload_n hx hb dX7_init_81 rfl (lv_at hl 1 rfl) ?_
  refine va_get (D := D) (ci := 4) (v := .ref q6) (C := RX7) (T := TX7) (N := 12) hx hb hts wi_X7_init_X7 hown hK hP 0 rfl rfl 8 (by decide) (hts _ wm_X7_init_9) (fun _ h9 => h9) rfl dX7_init_82 ?_
  refine lv_iload_n hx hb dX7_init_85 rfl (lv_at hl 0 rfl) ?_
  refine lv_iconst (v := 1) hx hb dX7_init_86 (by decide) ?_
  refine va_iast hx hb hK hP hD hS 6 0 rfl rfl (i := 2) (by unfold vp_in; decide) dX7_init_87 (fun H locs hP hD hS => ?_)
  have hP : va_P D vwCl [(h0, .inr (4, [.int 0, .int 0, .ref q1, .ref q2, .ref q3, .ref q4, .int 0, .ref q5, .ref q6, .ref q7, .ref q8, .ref q9])), (q1, .inl (cI, 16, .inl (fun _ => 0))), (q2, .inl (cI, 16, .inl (fun _ => 0))), (q3, .inl (cI, 16, .inl (fun _ => 0))), (q4, .inl (cI, 16, .inl (fun _ => 0))), (q5, .inl (cI, 5, .inl (fun _ => 0))), (q6, .inl (cI, 4, .inl (upd (upd (upd (fun _ => 0) 0 1) 1 1) 2 1))), (q7, .inl (cI, 96, .inl (fun _ => 0))), (q8, .inl (cI, 29, .inl (fun _ => 0))), (q9, .inl (cI, 24, .inl (fun _ => 0)))] H := hP
  have hD : va_D A [(h0, .inr (4, [.int 0, .int 0, .ref q1, .ref q2, .ref q3, .ref q4, .int 0, .ref q5, .ref q6, .ref q7, .ref q8, .ref q9])), (q1, .inl (cI, 16, .inl (fun _ => 0))), (q2, .inl (cI, 16, .inl (fun _ => 0))), (q3, .inl (cI, 16, .inl (fun _ => 0))), (q4, .inl (cI, 16, .inl (fun _ => 0))), (q5, .inl (cI, 5, .inl (fun _ => 0))), (q6, .inl (cI, 4, .inl (upd (upd (upd (fun _ => 0) 0 1) 1 1) 2 1))), (q7, .inl (cI, 96, .inl (fun _ => 0))), (q8, .inl (cI, 29, .inl (fun _ => 0))), (q9, .inl (cI, 24, .inl (fun _ => 0)))] := hD
  refine lv_iinc (v := 3) (lv' := [(1, .int 3), (0, .ref h0)]) hx hb dX7_init_88 hl (k := 0) rfl (by decide) (by decide) rfl (fun ls hl => ?_)
  refine lv_goto (tgt := 76) hx hb dX7_init_91 (by decide) ?_
  refine lv_iload_n hx hb dX7_init_76 rfl (lv_at hl 0 rfl) ?_
  refine lv_iconst (v := 4) hx hb dX7_init_77 (by decide) ?_
  refine lv_icmp_ge (tgt := 94) hx hb dX7_init_78 (by decide) (fun c9 => absurd c9 (by decide)) (fun _ => ?_)
  refine lv_aload_n hx hb dX7_init_81 rfl (lv_at hl 1 rfl) ?_
  refine va_get (D := D) (ci := 4) (v := .ref q6) (C := RX7) (T := TX7) (N := 12) hx hb hts wi_X7_init_X7 hown hK hP 0 rfl rfl 8 (by decide) (hts _ wm_X7_init_9) (fun _ h9 => h9) rfl dX7_init_82 ?_
  refine lv_iload_n hx hb dX7_init_85 rfl (lv_at hl 0 rfl) ?_
  refine lv_iconst (v := 1) hx hb dX7_init_86 (by decide) ?_
  refine va_iast hx hb hK hP hD hS 6 0 rfl rfl (i := 3) (by unfold vp_in; decide) dX7_init_87 (fun H locs hP hD hS => ?_)
  have hP : va_P D vwCl [(h0, .inr (4, [.int 0, .int 0, .ref q1, .ref q2, .ref q3, .ref q4, .int 0, .ref q5, .ref q6, .ref q7, .ref q8, .ref q9])), (q1, .inl (cI, 16, .inl (fun _ => 0))), (q2, .inl (cI, 16, .inl (fun _ => 0))), (q3, .inl (cI, 16, .inl (fun _ => 0))), (q4, .inl (cI, 16, .inl (fun _ => 0))), (q5, .inl (cI, 5, .inl (fun _ => 0))), (q6, .inl (cI, 4, .inl (upd (upd (upd (upd (fun _ => 0) 0 1) 1 1) 2 1) 3 1))), (q7, .inl (cI, 96, .inl (fun _ => 0))), (q8, .inl (cI, 29, .inl (fun _ => 0))), (q9, .inl (cI, 24, .inl (fun _ => 0)))] H := hP
  have hD : va_D A [(h0, .inr (4, [.int 0, .int 0, .ref q1, .ref q2, .ref q3, .ref q4, .int 0, .ref q5, .ref q6, .ref q7, .ref q8, .ref q9])), (q1, .inl (cI, 16, .inl (fun _ => 0))), (q2, .inl (cI, 16, .inl (fun _ => 0))), (q3, .inl (cI, 16, .inl (fun _ => 0))), (q4, .inl (cI, 16, .inl (fun _ => 0))), (q5, .inl (cI, 5, .inl (fun _ => 0))), (q6, .inl (cI, 4, .inl (upd (upd (upd (upd (fun _ => 0) 0 1) 1 1) 2 1) 3 1))), (q7, .inl (cI, 96, .inl (fun _ => 0))), (q8, .inl (cI, 29, .inl (fun _ => 0))), (q9, .inl (cI, 24, .inl (fun _ => 0)))] := hD
  refine lv_iinc (v := 4) (lv' := [(1, .int 4), (0, .ref h0)]) hx hb dX7_init_88 hl (k := 0) rfl (by decide) (by decide) rfl (fun ls hl => ?_)
  refine lv_goto (tgt := 76) hx hb dX7_init_91 (by decide) ?_
  refine lv_iload_n hx hb dX7_init_76 rfl (lv_at hl 0 rfl) ?_
  refine lv_iconst (v := 4) hx hb dX7_init_77 (by decide) ?_
  refine lv_icmp_ge (tgt := 94) hx hb dX7_init_78 (by decide) (fun _ => ?_) (fun c9 => absurd (by decide) c9)
  exact W.vret hx hb hr (fun t ht hW => ⟨⟨(), rfl, trivial, q1, q2, q3, q4, q5, q6, q7, q8, q9, by rw [ht]; exact hP, hD⟩, hS.F ht⟩) hS.2.2 dX7_init_94 (hlocks := hlk)
