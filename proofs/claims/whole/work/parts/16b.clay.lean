theorem kdvX6_clayOf : yX6_clayOf.cls = RX6 ∧ yX6_clayOf.cls ≠ "java/lang/invoke/MethodHandle" ∧ yX6_clayOf.cls ≠ "java/lang/invoke/VarHandle" ∧ (parseMethodDescriptor yX6_clayOf.desc).map (fun d => d.parameters.length) = some 1 := by decide +kernel
theorem wm_X6_clayOf_0 : Cond.fieldLink RX6 33 "SixtyTablet" "tablets" "[LSixtyTablet$Tablet;" ∈ wsX6_clayOf := by decide +kernel
theorem wi_X6_clayOf_X6 : ∀ w ∈ wsX60, w ∈ wsX6_clayOf := by decide +kernel
abbrev rmX6_clayOf : Room := { frames := 0, cells := 0, slots := 0, locals := 0 }
theorem clay_lt {p1 : Int32} (h : vp_in p1 4) : ¬ (4 : Int32) ≤ p1 := by
  have h2 := vp_in_iff.mp h
  rw [Int32.le_iff_toInt_le]
  have : (4 : Int32).toInt = 4 := by decide
  omega
theorem clay_in {p1 : Int32} (h1 : ¬ p1 < 0) (h2 : ¬ (4 : Int32) ≤ p1) : vp_in p1 4 := by
  rw [Int32.le_iff_toInt_le] at h2
  rw [Int32.lt_iff_toInt_lt] at h1
  have e4 : (4 : Int32).toInt = 4 := by decide
  have e0 : (0 : Int32).toInt = 0 := by decide
  exact vp_in_iff.mpr (by omega)
set_option maxHeartbeats 4000000 in
set_option maxRecDepth 100000 in
theorem ctX6_clayOf_i (l : Launch) {D : va_G} {cI cT : ClassId} {xo wo x_tablets_a so x_steps_a to : Nat} {x_refs : Nat → Option Nat} {x_stepCount p1 : Int32} (hti : vp_in p1 4) (htr : x_refs (Int32.toNatClampNeg p1) = some to) : Met l yX6_clayOf wsX6_clayOf rmX6_clayOf (va_Pc [.ref xo, .int p1] (kW D cI cT [(xo, .inr (3, [.ref wo, .ref x_tablets_a, .ref so, .ref x_steps_a, .int x_stepCount])), (x_tablets_a, .inl (cT, 4, .inr (.inr (.inr (.inr x_refs)))))] none (fun _ => False))) (kR (.ref to)) 0 0 (fun _ => False) :=
  km (by decide) rfl (Nat.le_of_ble_eq_true rfl) (fun p e s m below meth c ls C hB hl => by
    have C0 := C
    obtain ⟨hx, hb, hml, hown, hts, hr, hlk, hnm⟩ := C0
    obtain ⟨hK, hP, -⟩ := hB
    have hl : lv_has ls 2 [(0, .ref xo), (1, .int p1)] := hl
    refine lv_iload_n hx hb dX6_clayOf_0 rfl (lv_at hl 1 rfl) ?_
    refine lv_if_lt (tgt := 22) hx hb dX6_clayOf_1 (by decide) (fun c1 => absurd (Or.inl c1) hti) (fun c1 => ?_)
    refine lv_iload_n hx hb dX6_clayOf_4 rfl (lv_at hl 1 rfl) ?_
    refine lv_aload_n hx hb dX6_clayOf_5 rfl (lv_at hl 0 rfl) ?_
    refine va_get (D := D) (ci := 3) (v := .ref x_tablets_a) (C := RX6) (T := TX6) (N := 5) hx hb hts wi_X6_clayOf_X6 hown hK hP 0 rfl rfl 1 (by decide) (hts _ wm_X6_clayOf_0) (fun _ h9 => h9) rfl dX6_clayOf_6 ?_
    refine va_alen hx hb hK hP 1 1 rfl rfl (v := 4) rfl dX6_clayOf_9 ?_
    refine lv_icmp_ge (tgt := 22) hx hb dX6_clayOf_10 (by decide) (fun c2 => absurd c2 (clay_lt hti)) (fun c2 => ?_)
    refine lv_aload_n hx hb dX6_clayOf_13 rfl (lv_at hl 0 rfl) ?_
    refine va_get (D := D) (ci := 3) (v := .ref x_tablets_a) (C := RX6) (T := TX6) (N := 5) hx hb hts wi_X6_clayOf_X6 hown hK hP 0 rfl rfl 1 (by decide) (hts _ wm_X6_clayOf_0) (fun _ h9 => h9) rfl dX6_clayOf_14 ?_
    refine lv_iload_n hx hb dX6_clayOf_17 rfl (lv_at hl 1 rfl) ?_
    refine va_aldq hx hb hK hP 1 1 rfl rfl hti dX6_clayOf_18 ?_
    rw [htr]
    refine lv_goto (tgt := 23) hx hb dX6_clayOf_19 (by decide) ?_
    exact kr_a C (Or.inr ⟨to, rfl⟩) dX6_clayOf_23)
set_option maxHeartbeats 4000000 in
set_option maxRecDepth 100000 in
theorem ctX6_clayOf_o (l : Launch) {D : va_G} {cI cT : ClassId} {xo wo x_tablets_a so x_steps_a : Nat} {x_refs : Nat → Option Nat} {x_stepCount p1 : Int32} (hto : ¬ vp_in p1 4) : Met l yX6_clayOf wsX6_clayOf rmX6_clayOf (va_Pc [.ref xo, .int p1] (kW D cI cT [(xo, .inr (3, [.ref wo, .ref x_tablets_a, .ref so, .ref x_steps_a, .int x_stepCount])), (x_tablets_a, .inl (cT, 4, .inr (.inr (.inr (.inr x_refs)))))] none (fun _ => False))) (kR .null) 0 0 (fun _ => False) :=
  km (by decide) rfl (Nat.le_of_ble_eq_true rfl) (fun p e s m below meth c ls C hB hl => by
    have C0 := C
    obtain ⟨hx, hb, hml, hown, hts, hr, hlk, hnm⟩ := C0
    obtain ⟨hK, hP, -⟩ := hB
    have hl : lv_has ls 2 [(0, .ref xo), (1, .int p1)] := hl
    refine lv_iload_n hx hb dX6_clayOf_0 rfl (lv_at hl 1 rfl) ?_
    refine lv_if_lt (tgt := 22) hx hb dX6_clayOf_1 (by decide) (fun c1 => ?_) (fun c1 => ?_)
    · refine lv_null hx hb dX6_clayOf_22 ?_
      exact kr_a C (Or.inl rfl) dX6_clayOf_23
    refine lv_iload_n hx hb dX6_clayOf_4 rfl (lv_at hl 1 rfl) ?_
    refine lv_aload_n hx hb dX6_clayOf_5 rfl (lv_at hl 0 rfl) ?_
    refine va_get (D := D) (ci := 3) (v := .ref x_tablets_a) (C := RX6) (T := TX6) (N := 5) hx hb hts wi_X6_clayOf_X6 hown hK hP 0 rfl rfl 1 (by decide) (hts _ wm_X6_clayOf_0) (fun _ h9 => h9) rfl dX6_clayOf_6 ?_
    refine va_alen hx hb hK hP 1 1 rfl rfl (v := 4) rfl dX6_clayOf_9 ?_
    refine lv_icmp_ge (tgt := 22) hx hb dX6_clayOf_10 (by decide) (fun c2 => ?_) (fun c2 => absurd (clay_in c1 c2) hto)
    refine lv_null hx hb dX6_clayOf_22 ?_
    exact kr_a C (Or.inl rfl) dX6_clayOf_23)
