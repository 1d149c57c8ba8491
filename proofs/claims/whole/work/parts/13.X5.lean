theorem wm_X5_write_0 : Cond.fieldLink RX5 19 "SixtyTablet$Working" "lines" "I" ∈ wsX5_write := by decide +kernel
theorem wm_X5_write_1 : Cond.fieldLink RX5 9 "SixtyTablet$Working" "ofX" "[I" ∈ wsX5_write := by decide +kernel
theorem wm_X5_write_2 : Cond.fieldLink RX5 13 "SixtyTablet$Working" "ofY" "[I" ∈ wsX5_write := by decide +kernel
theorem wm_X5_write_3 : Cond.fieldLink RX5 16 "SixtyTablet$Working" "places" "[I" ∈ wsX5_write := by decide +kernel
theorem wi_X5_write_X5 : ∀ w ∈ wsX50, w ∈ wsX5_write := by decide +kernel
theorem kdvX5_write : yX5_write.cls = RX5 ∧ yX5_write.cls ≠ "java/lang/invoke/MethodHandle" ∧ yX5_write.cls ≠ "java/lang/invoke/VarHandle" ∧ (parseMethodDescriptor yX5_write.desc).map (fun d => d.parameters.length) = some 3 := by decide +kernel
abbrev rmX5_write : Room := { frames := 0, cells := 0, slots := 0, locals := 0 }
def mX5_write (w_ofX : Nat → Int32) (w_ofY : Nat → Int32) (w_places : Nat → Int32) (w_lines : Int32) (p1 : Int32) (p2 : Int32) (p3 : Int32) : Option ((Nat → Int32) × (Nat → Int32) × (Nat → Int32) × Int32) := (if p1 = 0 then (some (w_ofX, w_ofY, w_places, w_lines)) else (if p2 = 0 then (some (w_ofX, w_ofY, w_places, w_lines)) else (if w_lines < 0 then (some (w_ofX, w_ofY, w_places, w_lines)) else (if w_lines < (16 : Int32) then (if w_lines < 0 ∨ 16 ≤ (Int32.toNatClampNeg w_lines) then none else (md_let (upd w_ofX (Int32.toNatClampNeg w_lines) p1) (fun (w_ofX_5 : Nat → Int32) => (if w_lines < 0 ∨ 16 ≤ (Int32.toNatClampNeg w_lines) then none else (md_let (upd w_ofY (Int32.toNatClampNeg w_lines) p2) (fun (w_ofY_6 : Nat → Int32) => (if w_lines < 0 ∨ 16 ≤ (Int32.toNatClampNeg w_lines) then none else (md_let (upd w_places (Int32.toNatClampNeg w_lines) p3) (fun (w_places_7 : Nat → Int32) => (md_let (w_lines + (1 : Int32)) (fun (f_8 : Int32) => (some (w_ofX_5, w_ofY_6, w_places_7, f_8))))))))))))) else (some (w_ofX, w_ofY, w_places, w_lines))))))
set_option maxHeartbeats 4000000 in
set_option maxRecDepth 100000 in
theorem bX5_write {p : Program} {l : Launch} {e : Env} {s : State} {m : MethodId} {args : Array Value} {below : List Frame} {meth : Method} {c : Code} {Q : State → Prop} (C : kc p s m args meth c cX5_write 4 RX5 yX5_write.name wsX5_write none) {D : va_G} {cI cT : ClassId} {wo w_ofX_a w_ofY_a w_places_a : Nat} (p1 : Int32) (p2 : Int32) (p3 : Int32) (hK : va_K D vwCl (kTy cI cT) s) (hnd : ([wo, w_ofX_a, w_ofY_a, w_places_a] : List Nat).Nodup) (w_ofX : Nat → Int32) (w_ofY : Nat → Int32) (w_places : Nat → Int32) (w_lines : Int32) (res : ((Nat → Int32) × (Nat → Int32) × (Nat → Int32) × Int32)) (hQ : ∀ (w_ofX : Nat → Int32) (w_ofY : Nat → Int32) (w_places : Nat → Int32) (w_lines : Int32) (H : Heap) (locs : List Loc) (pc : Nat) (ls : Array Slot), some (w_ofX, w_ofY, w_places, w_lines) = some res → va_P D vwCl [(wo, .inr (2, [.ref w_ofX_a, .ref w_ofY_a, .ref w_places_a, .int w_lines])), (w_ofX_a, .inl (cI, 16, .inl w_ofX)), (w_ofY_a, .inl (cI, 16, .inl w_ofY)), (w_places_a, .inl (cI, 16, .inl w_places))] H → va_S (fun q => q ∈ ([wo, w_ofX_a, w_ofY_a, w_places_a] : List Nat)) s.heap H locs → decode cX5_write pc = .ok (.return_, 1) → W p l e rmX5_write s m args below meth c H locs 0 0 Q (F0 m pc ls [])) : mX5_write w_ofX w_ofY w_places w_lines p1 p2 p3 = some res → ∀ (H : Heap) (locs : List Loc), va_P D vwCl [(wo, .inr (2, [.ref w_ofX_a, .ref w_ofY_a, .ref w_places_a, .int w_lines])), (w_ofX_a, .inl (cI, 16, .inl w_ofX)), (w_ofY_a, .inl (cI, 16, .inl w_ofY)), (w_places_a, .inl (cI, 16, .inl w_places))] H → va_S (fun q => q ∈ ([wo, w_ofX_a, w_ofY_a, w_places_a] : List Nat)) s.heap H locs → ∀ (ls : Array Slot), lv_has ls 4 [(0, .ref wo), (1, .int p1), (2, .int p2), (3, .int p3)] → W p l e rmX5_write s m args below meth c H locs 0 0 Q (F0 m 0 ls []) := by
  intro h H locs hP hS ls hl
  have C0 := C
  obtain ⟨hx, hb, hml, hown, hts, hr, hlk, hnm⟩ := C0
  rw [mX5_write] at h
  refine lv_iload_n hx hb dX5_write_0 rfl (lv_at hl 1 rfl) ?_
  refine lv_if_eq (tgt := 24) hx hb dX5_write_1 (by decide) (fun c1 => ?_) (fun c1 => ?_)
  · replace h := md_t c1 h
    exact hQ w_ofX w_ofY w_places w_lines H locs 24 ls h hP hS dX5_write_24
  replace h := md_f c1 h
  refine lv_iload_n hx hb dX5_write_4 rfl (lv_at hl 2 rfl) ?_
  refine lv_if_eq (tgt := 24) hx hb dX5_write_5 (by decide) (fun c2 => ?_) (fun c2 => ?_)
  · replace h := md_t c2 h
    exact hQ w_ofX w_ofY w_places w_lines H locs 24 ls h hP hS dX5_write_24
  replace h := md_f c2 h
  refine lv_aload_n hx hb dX5_write_8 rfl (lv_at hl 0 rfl) ?_
  refine va_get (D := D) (ci := 2) (v := .int w_lines) (C := RX5) (T := TX5) (N := 4) hx hb hts wi_X5_write_X5 hown hK hP 0 rfl rfl 3 (by decide) (hts _ wm_X5_write_0) (fun _ h9 => h9) rfl dX5_write_9 ?_
  refine lv_if_lt (tgt := 24) hx hb dX5_write_12 (by decide) (fun c3 => ?_) (fun c3 => ?_)
  · replace h := md_t c3 h
    exact hQ w_ofX w_ofY w_places w_lines H locs 24 ls h hP hS dX5_write_24
  replace h := md_f c3 h
  refine lv_aload_n hx hb dX5_write_15 rfl (lv_at hl 0 rfl) ?_
  refine va_get (D := D) (ci := 2) (v := .int w_lines) (C := RX5) (T := TX5) (N := 4) hx hb hts wi_X5_write_X5 hown hK hP 0 rfl rfl 3 (by decide) (hts _ wm_X5_write_0) (fun _ h9 => h9) rfl dX5_write_16 ?_
  refine lv_bipush (v := 16) hx hb dX5_write_19 (by decide) ?_
  refine lv_icmp_lt (tgt := 25) hx hb dX5_write_21 (by decide) (fun c4 => ?_) (fun c4 => ?_)
  · replace h := md_t c4 h
    refine lv_aload_n hx hb dX5_write_25 rfl (lv_at hl 0 rfl) ?_
    refine va_get (D := D) (ci := 2) (v := .ref w_ofX_a) (C := RX5) (T := TX5) (N := 4) hx hb hts wi_X5_write_X5 hown hK hP 0 rfl rfl 0 (by decide) (hts _ wm_X5_write_1) (fun _ h9 => h9) rfl dX5_write_26 ?_
    refine lv_aload_n hx hb dX5_write_29 rfl (lv_at hl 0 rfl) ?_
    refine va_get (D := D) (ci := 2) (v := .int w_lines) (C := RX5) (T := TX5) (N := 4) hx hb hts wi_X5_write_X5 hown hK hP 0 rfl rfl 3 (by decide) (hts _ wm_X5_write_0) (fun _ h9 => h9) rfl dX5_write_30 ?_
    refine lv_iload_n hx hb dX5_write_33 rfl (lv_at hl 1 rfl) ?_
    obtain ⟨hin5, h⟩ := md_g h
    refine va_iast hx hb hK hP (kD hnd rfl) hS 1 0 rfl rfl hin5 dX5_write_34 (fun H locs hP _ hS => ?_)
    have hP : va_P D vwCl [(wo, .inr (2, [.ref w_ofX_a, .ref w_ofY_a, .ref w_places_a, .int w_lines])), (w_ofX_a, .inl (cI, 16, .inl (upd w_ofX (Int32.toNatClampNeg w_lines) p1))), (w_ofY_a, .inl (cI, 16, .inl w_ofY)), (w_places_a, .inl (cI, 16, .inl w_places))] H := hP
    obtain ⟨w_ofX_5, ew_ofX_5⟩ : ∃ y : Nat → Int32, y = (upd w_ofX (Int32.toNatClampNeg w_lines) p1) := ⟨_, rfl⟩
    replace h := md_le ew_ofX_5 h
    rw [← ew_ofX_5] at hP
    refine lv_aload_n hx hb dX5_write_35 rfl (lv_at hl 0 rfl) ?_
    refine va_get (D := D) (ci := 2) (v := .ref w_ofY_a) (C := RX5) (T := TX5) (N := 4) hx hb hts wi_X5_write_X5 hown hK hP 0 rfl rfl 1 (by decide) (hts _ wm_X5_write_2) (fun _ h9 => h9) rfl dX5_write_36 ?_
    refine lv_aload_n hx hb dX5_write_39 rfl (lv_at hl 0 rfl) ?_
    refine va_get (D := D) (ci := 2) (v := .int w_lines) (C := RX5) (T := TX5) (N := 4) hx hb hts wi_X5_write_X5 hown hK hP 0 rfl rfl 3 (by decide) (hts _ wm_X5_write_0) (fun _ h9 => h9) rfl dX5_write_40 ?_
    refine lv_iload_n hx hb dX5_write_43 rfl (lv_at hl 2 rfl) ?_
    obtain ⟨hin6, h⟩ := md_g h
    refine va_iast hx hb hK hP (kD hnd rfl) hS 2 0 rfl rfl hin6 dX5_write_44 (fun H locs hP _ hS => ?_)
    have hP : va_P D vwCl [(wo, .inr (2, [.ref w_ofX_a, .ref w_ofY_a, .ref w_places_a, .int w_lines])), (w_ofX_a, .inl (cI, 16, .inl w_ofX_5)), (w_ofY_a, .inl (cI, 16, .inl (upd w_ofY (Int32.toNatClampNeg w_lines) p2))), (w_places_a, .inl (cI, 16, .inl w_places))] H := hP
    obtain ⟨w_ofY_6, ew_ofY_6⟩ : ∃ y : Nat → Int32, y = (upd w_ofY (Int32.toNatClampNeg w_lines) p2) := ⟨_, rfl⟩
    replace h := md_le ew_ofY_6 h
    rw [← ew_ofY_6] at hP
    refine lv_aload_n hx hb dX5_write_45 rfl (lv_at hl 0 rfl) ?_
    refine va_get (D := D) (ci := 2) (v := .ref w_places_a) (C := RX5) (T := TX5) (N := 4) hx hb hts wi_X5_write_X5 hown hK hP 0 rfl rfl 2 (by decide) (hts _ wm_X5_write_3) (fun _ h9 => h9) rfl dX5_write_46 ?_
    refine lv_aload_n hx hb dX5_write_49 rfl (lv_at hl 0 rfl) ?_
    refine va_get (D := D) (ci := 2) (v := .int w_lines) (C := RX5) (T := TX5) (N := 4) hx hb hts wi_X5_write_X5 hown hK hP 0 rfl rfl 3 (by decide) (hts _ wm_X5_write_0) (fun _ h9 => h9) rfl dX5_write_50 ?_
    refine lv_iload_n hx hb dX5_write_53 rfl (lv_at hl 3 rfl) ?_
    obtain ⟨hin7, h⟩ := md_g h
    refine va_iast hx hb hK hP (kD hnd rfl) hS 3 0 rfl rfl hin7 dX5_write_54 (fun H locs hP _ hS => ?_)
    have hP : va_P D vwCl [(wo, .inr (2, [.ref w_ofX_a, .ref w_ofY_a, .ref w_places_a, .int w_lines])), (w_ofX_a, .inl (cI, 16, .inl w_ofX_5)), (w_ofY_a, .inl (cI, 16, .inl w_ofY_6)), (w_places_a, .inl (cI, 16, .inl (upd w_places (Int32.toNatClampNeg w_lines) p3)))] H := hP
    obtain ⟨w_places_7, ew_places_7⟩ : ∃ y : Nat → Int32, y = (upd w_places (Int32.toNatClampNeg w_lines) p3) := ⟨_, rfl⟩
    replace h := md_le ew_places_7 h
    rw [← ew_places_7] at hP
    refine lv_aload_n hx hb dX5_write_55 rfl (lv_at hl 0 rfl) ?_
    refine lv_dup hx hb dX5_write_56 rfl ?_
    refine va_get (D := D) (ci := 2) (v := .int w_lines) (C := RX5) (T := TX5) (N := 4) hx hb hts wi_X5_write_X5 hown hK hP 0 rfl rfl 3 (by decide) (hts _ wm_X5_write_0) (fun _ h9 => h9) rfl dX5_write_57 ?_
    refine lv_iconst (v := 1) hx hb dX5_write_60 (by decide) ?_
    refine lv_iadd hx hb dX5_write_61 ?_
    refine lv_topi (fun f_8 ef_8 => ?_)
    replace h := md_le ef_8 h
    refine va_put (D := D) (ci := 2) (v := .int f_8) (ty := .int) (C := RX5) (T := TX5) (N := 4) hx hb hts wi_X5_write_X5 tyX5 tyX5_ok nmX5 hown hK hP (kD hnd rfl) hS 0 rfl rfl 3 (by decide) (hts _ wm_X5_write_0) (fun _ h9 => h9) rfl (by decide +kernel) rfl rfl (Nat.le_of_ble_eq_true rfl) dX5_write_62 (fun H locs hP _ hS => ?_)
    have hP : va_P D vwCl [(wo, .inr (2, [.ref w_ofX_a, .ref w_ofY_a, .ref w_places_a, .int f_8])), (w_ofX_a, .inl (cI, 16, .inl w_ofX_5)), (w_ofY_a, .inl (cI, 16, .inl w_ofY_6)), (w_places_a, .inl (cI, 16, .inl w_places_7))] H := hP
    exact hQ w_ofX_5 w_ofY_6 w_places_7 f_8 H locs 65 ls h hP hS dX5_write_65
  replace h := md_f c4 h
  exact hQ w_ofX w_ofY w_places w_lines H locs 24 ls h hP hS dX5_write_24
set_option maxHeartbeats 4000000 in
theorem ctX5_write (l : Launch) {D : va_G} {cI cT : ClassId} {wo w_ofX_a w_ofY_a w_places_a : Nat} {w_ofX : Nat → Int32} {w_ofY : Nat → Int32} {w_places : Nat → Int32} {w_lines : Int32} {p1 : Int32} {p2 : Int32} {p3 : Int32} {res : ((Nat → Int32) × (Nat → Int32) × (Nat → Int32) × Int32)} (hnd : ([wo, w_ofX_a, w_ofY_a, w_places_a] : List Nat).Nodup) (hm : mX5_write w_ofX w_ofY w_places w_lines p1 p2 p3 = some res) : Met l yX5_write wsX5_write rmX5_write (va_Pc [.ref wo, .int p1, .int p2, .int p3] (kW D cI cT [(wo, .inr (2, [.ref w_ofX_a, .ref w_ofY_a, .ref w_places_a, .int w_lines])), (w_ofX_a, .inl (cI, 16, .inl w_ofX)), (w_ofY_a, .inl (cI, 16, .inl w_ofY)), (w_places_a, .inl (cI, 16, .inl w_places))] none (fun q => q ∈ ([wo, w_ofX_a, w_ofY_a, w_places_a] : List Nat)))) (kX none D [(wo, .inr (2, [.ref w_ofX_a, .ref w_ofY_a, .ref w_places_a, .int res.2.2.2])), (w_ofX_a, .inl (cI, 16, .inl res.1)), (w_ofY_a, .inl (cI, 16, .inl res.2.1)), (w_places_a, .inl (cI, 16, .inl res.2.2.1))] (fun q => q ∈ ([wo, w_ofX_a, w_ofY_a, w_places_a] : List Nat))) 0 0 (fun q => q ∈ ([wo, w_ofX_a, w_ofY_a, w_places_a] : List Nat)) :=
  km (by decide) rfl (Nat.le_of_ble_eq_true rfl) (fun p e s m below meth c ls C hB hl => bX5_write C p1 p2 p3 hB.1 hnd w_ofX w_ofY w_places w_lines res (fun w_ofX1 w_ofY1 w_places1 w_lines1 H locs pc ls h hP hS hd => by obtain rfl := Option.some.inj h; exact kx_v C hP hS hd) hm s.heap [] hB.2.1 va_S.rf ls hl)
theorem wm_X5_begin_0 : Cond.fieldLink RX5 19 "SixtyTablet$Working" "lines" "I" ∈ wsX5_begin := by decide +kernel
theorem wi_X5_begin_X5 : ∀ w ∈ wsX50, w ∈ wsX5_begin := by decide +kernel
theorem kdvX5_begin : yX5_begin.cls = RX5 ∧ yX5_begin.cls ≠ "java/lang/invoke/MethodHandle" ∧ yX5_begin.cls ≠ "java/lang/invoke/VarHandle" ∧ (parseMethodDescriptor yX5_begin.desc).map (fun d => d.parameters.length) = some 2 := by decide +kernel
abbrev rmX5_begin : Room := { frames := 1, cells := 0, slots := 0, locals := 25 }
def mlX5_begin_26 (x1 : Int64) (x3 : Int64) (x5 : Int32) (kE : (Nat → Int32) → (Nat → Int32) → (Nat → Int32) → Int32 → Option ((Nat → Int32) × (Nat → Int32) × (Nat → Int32) × Int32)) : Nat → Int32 → (Nat → Int32) → (Nat → Int32) → (Nat → Int32) → Int32 → Option ((Nat → Int32) × (Nat → Int32) × (Nat → Int32) × Int32)
  | 0, _, _, _, _, _ => none
  | n + 1, x6, w_ofX, w_ofY, w_places, w_lines => (if x6 < 0 then (kE w_ofX w_ofY w_places w_lines) else (Option.bind (mX1_digitAhead x1 x5) (fun u7 => (Option.bind (mX1_digitAhead x3 x6) (fun u8 => (Option.bind (mX5_write w_ofX w_ofY w_places w_lines u7 u8 (x5 + x6)) (fun u9 => (md_let (x6 + (-1 : Int32)) (fun (x6_10 : Int32) => (mlX5_begin_26 x1 x3 x5 kE n x6_10 u9.1 u9.2.1 u9.2.2.1 u9.2.2.2))))))))))
set_option maxHeartbeats 4000000 in
set_option maxRecDepth 100000 in
theorem lX5_begin_26 {p : Program} {l : Launch} {e : Env} {s : State} {m : MethodId} {args : Array Value} {below : List Frame} {meth : Method} {c : Code} {Q : State → Prop} (C : kc p s m args meth c cX5_begin 7 RX5 yX5_begin.name wsX5_begin none) {D : va_G} {cI cT : ClassId} {wo w_ofX_a w_ofY_a w_places_a : Nat} (hK : va_K D vwCl (kTy cI cT) s) (hnd : ([wo, w_ofX_a, w_ofY_a, w_places_a] : List Nat).Nodup) (x1 : Int64) (x3 : Int64) (x5 : Int32) (res : ((Nat → Int32) × (Nat → Int32) × (Nat → Int32) × Int32)) (hQ : ∀ (w_ofX : Nat → Int32) (w_ofY : Nat → Int32) (w_places : Nat → Int32) (w_lines : Int32) (H : Heap) (locs : List Loc) (pc : Nat) (ls : Array Slot), some (w_ofX, w_ofY, w_places, w_lines) = some res → va_P D vwCl [(wo, .inr (2, [.ref w_ofX_a, .ref w_ofY_a, .ref w_places_a, .int w_lines])), (w_ofX_a, .inl (cI, 16, .inl w_ofX)), (w_ofY_a, .inl (cI, 16, .inl w_ofY)), (w_places_a, .inl (cI, 16, .inl w_places))] H → va_S (fun q => q ∈ ([wo, w_ofX_a, w_ofY_a, w_places_a] : List Nat)) s.heap H locs → decode cX5_begin pc = .ok (.return_, 1) → W p l e rmX5_begin s m args below meth c H locs 0 0 Q (F0 m pc ls [])) (kE : (Nat → Int32) → (Nat → Int32) → (Nat → Int32) → Int32 → Option ((Nat → Int32) × (Nat → Int32) × (Nat → Int32) × Int32)) (hE : ∀ (w_ofX : Nat → Int32) (w_ofY : Nat → Int32) (w_places : Nat → Int32) (w_lines : Int32), kE w_ofX w_ofY w_places w_lines = some res → ∀ (H : Heap) (locs : List Loc), va_P D vwCl [(wo, .inr (2, [.ref w_ofX_a, .ref w_ofY_a, .ref w_places_a, .int w_lines])), (w_ofX_a, .inl (cI, 16, .inl w_ofX)), (w_ofY_a, .inl (cI, 16, .inl w_ofY)), (w_places_a, .inl (cI, 16, .inl w_places))] H → va_S (fun q => q ∈ ([wo, w_ofX_a, w_ofY_a, w_places_a] : List Nat)) s.heap H locs → ∀ (ls : Array Slot), lv_has ls 7 [(0, .ref wo), (1, .long x1), (3, .long x3), (5, .int x5)] → W p l e rmX5_begin s m args below meth c H locs 0 0 Q (F0 m 58 ls [])) : ∀ (n : Nat), ∀ (x6 : Int32) (w_ofX : Nat → Int32) (w_ofY : Nat → Int32) (w_places : Nat → Int32) (w_lines : Int32), mlX5_begin_26 x1 x3 x5 kE n x6 w_ofX w_ofY w_places w_lines = some res → ∀ (H : Heap) (locs : List Loc), va_P D vwCl [(wo, .inr (2, [.ref w_ofX_a, .ref w_ofY_a, .ref w_places_a, .int w_lines])), (w_ofX_a, .inl (cI, 16, .inl w_ofX)), (w_ofY_a, .inl (cI, 16, .inl w_ofY)), (w_places_a, .inl (cI, 16, .inl w_places))] H → va_S (fun q => q ∈ ([wo, w_ofX_a, w_ofY_a, w_places_a] : List Nat)) s.heap H locs → ∀ (ls : Array Slot), lv_has ls 7 [(0, .ref wo), (1, .long x1), (3, .long x3), (5, .int x5), (6, .int x6)] → W p l e rmX5_begin s m args below meth c H locs 0 0 Q (F0 m 26 ls []) := by
  have C0 := C
  obtain ⟨hx, hb, hml, hown, hts, hr, hlk, hnm⟩ := C0
  intro n
  induction n with
  | zero => intro _ _ _ _ _ h; exact md_x h
  | succ n ih =>
    intro x6 w_ofX w_ofY w_places w_lines h H locs hP hS ls hl
    rw [mlX5_begin_26] at h
    refine lv_iload hx hb dX5_begin_26 (lv_at hl 4 rfl) ?_
    refine lv_if_lt (tgt := 58) hx hb dX5_begin_28 (by decide) (fun c6 => ?_) (fun c6 => ?_)
    · replace h := md_t c6 h
      exact hE w_ofX w_ofY w_places w_lines h _ _ hP hS ls (lv_sub hl [0, 1, 2, 3] rfl)
    replace h := md_f c6 h
    refine lv_aload_n hx hb dX5_begin_31 rfl (lv_at hl 0 rfl) ?_
    refine lv_lload_n hx hb dX5_begin_32 rfl (lv_at hl 1 rfl) ?_
    refine lv_iload hx hb dX5_begin_33 (lv_at hl 3 rfl) ?_
    obtain ⟨u7, hu7, h⟩ := md_b h
    refine kS C (ctX1_digitAhead l  hu7) gX5_begin_X1_digitAhead rfl kdX1_digitAhead ⟨rfl, rfl⟩ ⟨by decide, by decide⟩ kT_blind (fun _ _ _ => trivial) rfl hl [.ref wo] rfl (Nat.le_of_ble_eq_true rfl) dX5_begin_35 ⟨by decide, by decide⟩ ?_
    refine lv_lload_n hx hb dX5_begin_38 rfl (lv_at hl 2 rfl) ?_
    refine lv_iload hx hb dX5_begin_39 (lv_at hl 4 rfl) ?_
    obtain ⟨u8, hu8, h⟩ := md_b h
    refine kS C (ctX1_digitAhead l  hu8) gX5_begin_X1_digitAhead rfl kdX1_digitAhead ⟨rfl, rfl⟩ ⟨by decide, by decide⟩ kT_blind (fun _ _ _ => trivial) rfl hl [.int u7, .ref wo] rfl (Nat.le_of_ble_eq_true rfl) dX5_begin_41 ⟨by decide, by decide⟩ ?_
    refine lv_iload hx hb dX5_begin_44 (lv_at hl 3 rfl) ?_
    refine lv_iload hx hb dX5_begin_46 (lv_at hl 4 rfl) ?_
    refine lv_iadd hx hb dX5_begin_48 ?_
    obtain ⟨u9, hu9, h⟩ := md_b h
    refine kVx C (ctX5_write l (nd_sub hnd [0, 1, 2, 3] (by decide) rfl) hu9) gX5_begin_X5_write rfl kdvX5_write ⟨rfl, rfl⟩ ⟨by decide, by decide⟩ kW_blind (va_recv hK hP (ci := 2) (q0 := 0) rfl rfl) (kW_use hK (hP.sub (ws' := [(wo, .inr (2, [.ref w_ofX_a, .ref w_ofY_a, .ref w_places_a, .int w_lines])), (w_ofX_a, .inl (cI, 16, .inl w_ofX)), (w_ofY_a, .inl (cI, 16, .inl w_ofY)), (w_places_a, .inl (cI, 16, .inl w_places))]) [0, 1, 2, 3] rfl) kL_no) rfl hl [] rfl (Nat.le_of_ble_eq_true rfl) dX5_begin_49 ⟨by decide, by decide⟩ hS (mem_sub [0, 1, 2, 3] rfl) (fun H1 locs hP1 hk1 hS => ?_)
    replace hP : va_P D vwCl [(wo, .inr (2, [.ref w_ofX_a, .ref w_ofY_a, .ref w_places_a, .int u9.2.2.2])), (w_ofX_a, .inl (cI, 16, .inl u9.1)), (w_ofY_a, .inl (cI, 16, .inl u9.2.1)), (w_places_a, .inl (cI, 16, .inl u9.2.2.1))] H1 := kjoin hnd rfl hP hP1 hk1 [0, 1, 2, 3] rfl [(true, 0), (true, 1), (true, 2), (true, 3)] rfl rfl
    clear hP1 hk1
    generalize H1 = H at hP hS ⊢
    obtain ⟨x6_10, ex6_10⟩ : ∃ y : Int32, y = (x6 + (-1 : Int32)) := ⟨_, rfl⟩
    replace h := md_le ex6_10 h
    refine lv_iinc (v := x6_10) (lv' := [(6, .int x6_10), (0, .ref wo), (1, .long x1), (3, .long x3), (5, .int x5)]) hx hb dX5_begin_52 hl (k := 4) rfl (by rw [ex6_10]; rfl) (by decide) rfl (fun ls hl => ?_)
    refine lv_goto (tgt := 26) hx hb dX5_begin_55 (by decide) ?_
    exact ih x6_10 u9.1 u9.2.1 u9.2.2.1 u9.2.2.2 h _ _ hP hS ls (lv_sub hl [1, 2, 3, 4, 0] rfl)
def mlX5_begin_13 (x1 : Int64) (x3 : Int64) (kE : (Nat → Int32) → (Nat → Int32) → (Nat → Int32) → Int32 → Option ((Nat → Int32) × (Nat → Int32) × (Nat → Int32) × Int32)) : Nat → Int32 → (Nat → Int32) → (Nat → Int32) → (Nat → Int32) → Int32 → Option ((Nat → Int32) × (Nat → Int32) × (Nat → Int32) × Int32)
  | 0, _, _, _, _, _ => none
  | n + 1, x5, w_ofX, w_ofY, w_places, w_lines => (if x5 < 0 then (kE w_ofX w_ofY w_places w_lines) else (Option.bind (mX1_length x3) (fun u4 => (md_let (u4 - (1 : Int32)) (fun (x6_5 : Int32) => (mlX5_begin_26 x1 x3 x5 (fun (w_ofX_58 : Nat → Int32) (w_ofY_58 : Nat → Int32) (w_places_58 : Nat → Int32) (w_lines_58 : Int32) => (md_let (x5 + (-1 : Int32)) (fun (x5_11 : Int32) => (mlX5_begin_13 x1 x3 kE n x5_11 w_ofX_58 w_ofY_58 w_places_58 w_lines_58)))) kN x6_5 w_ofX w_ofY w_places w_lines))))))
set_option maxHeartbeats 4000000 in
set_option maxRecDepth 100000 in
theorem lX5_begin_13 {p : Program} {l : Launch} {e : Env} {s : State} {m : MethodId} {args : Array Value} {below : List Frame} {meth : Method} {c : Code} {Q : State → Prop} (C : kc p s m args meth c cX5_begin 7 RX5 yX5_begin.name wsX5_begin none) {D : va_G} {cI cT : ClassId} {wo w_ofX_a w_ofY_a w_places_a : Nat} (hK : va_K D vwCl (kTy cI cT) s) (hnd : ([wo, w_ofX_a, w_ofY_a, w_places_a] : List Nat).Nodup) (x1 : Int64) (x3 : Int64) (res : ((Nat → Int32) × (Nat → Int32) × (Nat → Int32) × Int32)) (hQ : ∀ (w_ofX : Nat → Int32) (w_ofY : Nat → Int32) (w_places : Nat → Int32) (w_lines : Int32) (H : Heap) (locs : List Loc) (pc : Nat) (ls : Array Slot), some (w_ofX, w_ofY, w_places, w_lines) = some res → va_P D vwCl [(wo, .inr (2, [.ref w_ofX_a, .ref w_ofY_a, .ref w_places_a, .int w_lines])), (w_ofX_a, .inl (cI, 16, .inl w_ofX)), (w_ofY_a, .inl (cI, 16, .inl w_ofY)), (w_places_a, .inl (cI, 16, .inl w_places))] H → va_S (fun q => q ∈ ([wo, w_ofX_a, w_ofY_a, w_places_a] : List Nat)) s.heap H locs → decode cX5_begin pc = .ok (.return_, 1) → W p l e rmX5_begin s m args below meth c H locs 0 0 Q (F0 m pc ls [])) (kE : (Nat → Int32) → (Nat → Int32) → (Nat → Int32) → Int32 → Option ((Nat → Int32) × (Nat → Int32) × (Nat → Int32) × Int32)) (hE : ∀ (w_ofX : Nat → Int32) (w_ofY : Nat → Int32) (w_places : Nat → Int32) (w_lines : Int32), kE w_ofX w_ofY w_places w_lines = some res → ∀ (H : Heap) (locs : List Loc), va_P D vwCl [(wo, .inr (2, [.ref w_ofX_a, .ref w_ofY_a, .ref w_places_a, .int w_lines])), (w_ofX_a, .inl (cI, 16, .inl w_ofX)), (w_ofY_a, .inl (cI, 16, .inl w_ofY)), (w_places_a, .inl (cI, 16, .inl w_places))] H → va_S (fun q => q ∈ ([wo, w_ofX_a, w_ofY_a, w_places_a] : List Nat)) s.heap H locs → ∀ (ls : Array Slot), lv_has ls 7 [] → W p l e rmX5_begin s m args below meth c H locs 0 0 Q (F0 m 64 ls [])) : ∀ (n : Nat), ∀ (x5 : Int32) (w_ofX : Nat → Int32) (w_ofY : Nat → Int32) (w_places : Nat → Int32) (w_lines : Int32), mlX5_begin_13 x1 x3 kE n x5 w_ofX w_ofY w_places w_lines = some res → ∀ (H : Heap) (locs : List Loc), va_P D vwCl [(wo, .inr (2, [.ref w_ofX_a, .ref w_ofY_a, .ref w_places_a, .int w_lines])), (w_ofX_a, .inl (cI, 16, .inl w_ofX)), (w_ofY_a, .inl (cI, 16, .inl w_ofY)), (w_places_a, .inl (cI, 16, .inl w_places))] H → va_S (fun q => q ∈ ([wo, w_ofX_a, w_ofY_a, w_places_a] : List Nat)) s.heap H locs → ∀ (ls : Array Slot), lv_has ls 7 [(0, .ref wo), (1, .long x1), (3, .long x3), (5, .int x5)] → W p l e rmX5_begin s m args below meth c H locs 0 0 Q (F0 m 13 ls []) := by
  have C0 := C
  obtain ⟨hx, hb, hml, hown, hts, hr, hlk, hnm⟩ := C0
  intro n
  induction n with
  | zero => intro _ _ _ _ _ h; exact md_x h
  | succ n ih =>
    intro x5 w_ofX w_ofY w_places w_lines h H locs hP hS ls hl
    rw [mlX5_begin_13] at h
    refine lv_iload hx hb dX5_begin_13 (lv_at hl 3 rfl) ?_
    refine lv_if_lt (tgt := 64) hx hb dX5_begin_15 (by decide) (fun c3 => ?_) (fun c3 => ?_)
    · replace h := md_t c3 h
      exact hE w_ofX w_ofY w_places w_lines h _ _ hP hS ls (lv_sub hl [] rfl)
    replace h := md_f c3 h
    refine lv_lload_n hx hb dX5_begin_18 rfl (lv_at hl 2 rfl) ?_
    obtain ⟨u4, hu4, h⟩ := md_b h
    refine kS C (ctX1_length l  hu4) gX5_begin_X1_length rfl kdX1_length ⟨rfl, rfl⟩ ⟨by decide, by decide⟩ kT_blind (fun _ _ _ => trivial) rfl hl [] rfl (Nat.le_of_ble_eq_true rfl) dX5_begin_19 ⟨by decide, by decide⟩ ?_
    refine lv_iconst (v := 1) hx hb dX5_begin_22 (by decide) ?_
    refine lv_isub hx hb dX5_begin_23 ?_
    refine lv_topi (fun x6_5 ex6_5 => ?_)
    replace h := md_le ex6_5 h
    refine lv_istore (lv' := [(6, .int x6_5), (0, .ref wo), (1, .long x1), (3, .long x3), (5, .int x5)]) hx hb dX5_begin_24 hl (by decide) rfl (fun ls hl => ?_)
    refine lX5_begin_26 (wo := wo) (w_ofX_a := w_ofX_a) (w_ofY_a := w_ofY_a) (w_places_a := w_places_a) C hK hnd x1 x3 x5 res hQ _ (fun w_ofX_58 w_ofY_58 w_places_58 w_lines_58 h H locs hP hS ls hl => ?_) kN x6_5 w_ofX w_ofY w_places w_lines h _ _ hP hS ls (lv_sub hl [1, 2, 3, 4, 0] rfl)
    obtain ⟨x5_11, ex5_11⟩ : ∃ y : Int32, y = (x5 + (-1 : Int32)) := ⟨_, rfl⟩
    replace h := md_le ex5_11 h
    refine lv_iinc (v := x5_11) (lv' := [(5, .int x5_11), (0, .ref wo), (1, .long x1), (3, .long x3)]) hx hb dX5_begin_58 hl (k := 3) rfl (by rw [ex5_11]; rfl) (by decide) rfl (fun ls hl => ?_)
    refine lv_goto (tgt := 13) hx hb dX5_begin_61 (by decide) ?_
    exact ih x5_11 w_ofX_58 w_ofY_58 w_places_58 w_lines_58 h _ _ hP hS ls (lv_sub hl [1, 2, 3, 0] rfl)
def mX5_begin (w_ofX : Nat → Int32) (w_ofY : Nat → Int32) (w_places : Nat → Int32) (p1 : Int64) (p2 : Int64) : Option ((Nat → Int32) × (Nat → Int32) × (Nat → Int32) × Int32) := (Option.bind (mX1_length p1) (fun u1 => (md_let (u1 - (1 : Int32)) (fun (x5_2 : Int32) => (mlX5_begin_13 p1 p2 (fun (w_ofX_64 : Nat → Int32) (w_ofY_64 : Nat → Int32) (w_places_64 : Nat → Int32) (w_lines_64 : Int32) => (some (w_ofX_64, w_ofY_64, w_places_64, w_lines_64))) kN x5_2 w_ofX w_ofY w_places (0 : Int32))))))
set_option maxHeartbeats 4000000 in
set_option maxRecDepth 100000 in
theorem bX5_begin {p : Program} {l : Launch} {e : Env} {s : State} {m : MethodId} {args : Array Value} {below : List Frame} {meth : Method} {c : Code} {Q : State → Prop} (C : kc p s m args meth c cX5_begin 7 RX5 yX5_begin.name wsX5_begin none) {D : va_G} {cI cT : ClassId} {wo w_ofX_a w_ofY_a w_places_a : Nat} (p1 : Int64) (p2 : Int64) (hK : va_K D vwCl (kTy cI cT) s) (hnd : ([wo, w_ofX_a, w_ofY_a, w_places_a] : List Nat).Nodup) (w_ofX : Nat → Int32) (w_ofY : Nat → Int32) (w_places : Nat → Int32) (w_lines : Int32) (res : ((Nat → Int32) × (Nat → Int32) × (Nat → Int32) × Int32)) (hQ : ∀ (w_ofX : Nat → Int32) (w_ofY : Nat → Int32) (w_places : Nat → Int32) (w_lines : Int32) (H : Heap) (locs : List Loc) (pc : Nat) (ls : Array Slot), some (w_ofX, w_ofY, w_places, w_lines) = some res → va_P D vwCl [(wo, .inr (2, [.ref w_ofX_a, .ref w_ofY_a, .ref w_places_a, .int w_lines])), (w_ofX_a, .inl (cI, 16, .inl w_ofX)), (w_ofY_a, .inl (cI, 16, .inl w_ofY)), (w_places_a, .inl (cI, 16, .inl w_places))] H → va_S (fun q => q ∈ ([wo, w_ofX_a, w_ofY_a, w_places_a] : List Nat)) s.heap H locs → decode cX5_begin pc = .ok (.return_, 1) → W p l e rmX5_begin s m args below meth c H locs 0 0 Q (F0 m pc ls [])) : mX5_begin w_ofX w_ofY w_places p1 p2 = some res → ∀ (H : Heap) (locs : List Loc), va_P D vwCl [(wo, .inr (2, [.ref w_ofX_a, .ref w_ofY_a, .ref w_places_a, .int w_lines])), (w_ofX_a, .inl (cI, 16, .inl w_ofX)), (w_ofY_a, .inl (cI, 16, .inl w_ofY)), (w_places_a, .inl (cI, 16, .inl w_places))] H → va_S (fun q => q ∈ ([wo, w_ofX_a, w_ofY_a, w_places_a] : List Nat)) s.heap H locs → ∀ (ls : Array Slot), lv_has ls 7 [(0, .ref wo), (1, .long p1), (3, .long p2)] → W p l e rmX5_begin s m args below meth c H locs 0 0 Q (F0 m 0 ls []) := by
  intro h H locs hP hS ls hl
  have C0 := C
  obtain ⟨hx, hb, hml, hown, hts, hr, hlk, hnm⟩ := C0
  rw [mX5_begin] at h
  refine lv_aload_n hx hb dX5_begin_0 rfl (lv_at hl 0 rfl) ?_
  refine lv_iconst (v := 0) hx hb dX5_begin_1 (by decide) ?_
  refine va_put (D := D) (ci := 2) (v := .int (0 : Int32)) (ty := .int) (C := RX5) (T := TX5) (N := 4) hx hb hts wi_X5_begin_X5 tyX5 tyX5_ok nmX5 hown hK hP (kD hnd rfl) hS 0 rfl rfl 3 (by decide) (hts _ wm_X5_begin_0) (fun _ h9 => h9) rfl (by decide +kernel) rfl rfl (Nat.le_of_ble_eq_true rfl) dX5_begin_2 (fun H locs hP _ hS => ?_)
  have hP : va_P D vwCl [(wo, .inr (2, [.ref w_ofX_a, .ref w_ofY_a, .ref w_places_a, .int (0 : Int32)])), (w_ofX_a, .inl (cI, 16, .inl w_ofX)), (w_ofY_a, .inl (cI, 16, .inl w_ofY)), (w_places_a, .inl (cI, 16, .inl w_places))] H := hP
  refine lv_lload_n hx hb dX5_begin_5 rfl (lv_at hl 1 rfl) ?_
  obtain ⟨u1, hu1, h⟩ := md_b h
  refine kS C (ctX1_length l  hu1) gX5_begin_X1_length rfl kdX1_length ⟨rfl, rfl⟩ ⟨by decide, by decide⟩ kT_blind (fun _ _ _ => trivial) rfl hl [] rfl (Nat.le_of_ble_eq_true rfl) dX5_begin_6 ⟨by decide, by decide⟩ ?_
  refine lv_iconst (v := 1) hx hb dX5_begin_9 (by decide) ?_
  refine lv_isub hx hb dX5_begin_10 ?_
  refine lv_topi (fun x5_2 ex5_2 => ?_)
  replace h := md_le ex5_2 h
  refine lv_istore (lv' := [(5, .int x5_2), (0, .ref wo), (1, .long p1), (3, .long p2)]) hx hb dX5_begin_11 hl (by decide) rfl (fun ls hl => ?_)
  refine lX5_begin_13 (wo := wo) (w_ofX_a := w_ofX_a) (w_ofY_a := w_ofY_a) (w_places_a := w_places_a) C hK hnd p1 p2 res hQ _ (fun w_ofX_64 w_ofY_64 w_places_64 w_lines_64 h H locs hP hS ls hl => ?_) kN x5_2 w_ofX w_ofY w_places (0 : Int32) h _ _ hP hS ls (lv_sub hl [1, 2, 3, 0] rfl)
  exact hQ w_ofX_64 w_ofY_64 w_places_64 w_lines_64 H locs 64 ls h hP hS dX5_begin_64
set_option maxHeartbeats 4000000 in
theorem ctX5_begin (l : Launch) {D : va_G} {cI cT : ClassId} {wo w_ofX_a w_ofY_a w_places_a : Nat} {w_ofX : Nat → Int32} {w_ofY : Nat → Int32} {w_places : Nat → Int32} {w_lines : Int32} {p1 : Int64} {p2 : Int64} {res : ((Nat → Int32) × (Nat → Int32) × (Nat → Int32) × Int32)} (hnd : ([wo, w_ofX_a, w_ofY_a, w_places_a] : List Nat).Nodup) (hm : mX5_begin w_ofX w_ofY w_places p1 p2 = some res) : Met l yX5_begin wsX5_begin rmX5_begin (va_Pc [.ref wo, .long p1, .long p2] (kW D cI cT [(wo, .inr (2, [.ref w_ofX_a, .ref w_ofY_a, .ref w_places_a, .int w_lines])), (w_ofX_a, .inl (cI, 16, .inl w_ofX)), (w_ofY_a, .inl (cI, 16, .inl w_ofY)), (w_places_a, .inl (cI, 16, .inl w_places))] none (fun q => q ∈ ([wo, w_ofX_a, w_ofY_a, w_places_a] : List Nat)))) (kX none D [(wo, .inr (2, [.ref w_ofX_a, .ref w_ofY_a, .ref w_places_a, .int res.2.2.2])), (w_ofX_a, .inl (cI, 16, .inl res.1)), (w_ofY_a, .inl (cI, 16, .inl res.2.1)), (w_places_a, .inl (cI, 16, .inl res.2.2.1))] (fun q => q ∈ ([wo, w_ofX_a, w_ofY_a, w_places_a] : List Nat))) 0 0 (fun q => q ∈ ([wo, w_ofX_a, w_ofY_a, w_places_a] : List Nat)) :=
  km (by decide) rfl (Nat.le_of_ble_eq_true rfl) (fun p e s m below meth c ls C hB hl => bX5_begin C p1 p2 hB.1 hnd w_ofX w_ofY w_places w_lines res (fun w_ofX1 w_ofY1 w_places1 w_lines1 H locs pc ls h hP hS hd => by obtain rfl := Option.some.inj h; exact kx_v C hP hS hd) hm s.heap [] hB.2.1 va_S.rf ls hl)
theorem wm_X5_lineCount_0 : Cond.fieldLink RX5 19 "SixtyTablet$Working" "lines" "I" ∈ wsX5_lineCount := by decide +kernel
theorem wi_X5_lineCount_X5 : ∀ w ∈ wsX50, w ∈ wsX5_lineCount := by decide +kernel
theorem kdvX5_lineCount : yX5_lineCount.cls = RX5 ∧ yX5_lineCount.cls ≠ "java/lang/invoke/MethodHandle" ∧ yX5_lineCount.cls ≠ "java/lang/invoke/VarHandle" ∧ (parseMethodDescriptor yX5_lineCount.desc).map (fun d => d.parameters.length) = some 0 := by decide +kernel
abbrev rmX5_lineCount : Room := { frames := 0, cells := 0, slots := 0, locals := 0 }
def mX5_lineCount (w_lines : Int32) : Option Int32 := (some w_lines)
set_option maxHeartbeats 4000000 in
set_option maxRecDepth 100000 in
theorem bX5_lineCount {p : Program} {l : Launch} {e : Env} {s : State} {m : MethodId} {args : Array Value} {below : List Frame} {meth : Method} {c : Code} {Q : State → Prop} (C : kc p s m args meth c cX5_lineCount 1 RX5 yX5_lineCount.name wsX5_lineCount (some .int)) {D : va_G} {cI cT : ClassId} {wo w_ofX_a w_ofY_a w_places_a : Nat} (hK : va_K D vwCl (kTy cI cT) s) (w_ofX : Nat → Int32) (w_ofY : Nat → Int32) (w_places : Nat → Int32) (w_lines : Int32) (hP : va_P D vwCl [(wo, .inr (2, [.ref w_ofX_a, .ref w_ofY_a, .ref w_places_a, .int w_lines])), (w_ofX_a, .inl (cI, 16, .inl w_ofX)), (w_ofY_a, .inl (cI, 16, .inl w_ofY)), (w_places_a, .inl (cI, 16, .inl w_places))] s.heap) (res : Int32) (hQ : ∀ (v : Int32) (pc : Nat) (ls : Array Slot), some v = some res → decode cX5_lineCount pc = .ok (.ireturn, 1) → W p l e rmX5_lineCount s m args below meth c s.heap [] 0 0 Q (F0 m pc ls [.int v])) : mX5_lineCount w_lines = some res → ∀ (ls : Array Slot), lv_has ls 1 [(0, .ref wo)] → W p l e rmX5_lineCount s m args below meth c s.heap [] 0 0 Q (F0 m 0 ls []) := by
  intro h ls hl
  have C0 := C
  obtain ⟨hx, hb, hml, hown, hts, hr, hlk, hnm⟩ := C0
  rw [mX5_lineCount] at h
  refine lv_aload_n hx hb dX5_lineCount_0 rfl (lv_at hl 0 rfl) ?_
  refine va_get (D := D) (ci := 2) (v := .int w_lines) (C := RX5) (T := TX5) (N := 4) hx hb hts wi_X5_lineCount_X5 hown hK hP 0 rfl rfl 3 (by decide) (hts _ wm_X5_lineCount_0) (fun _ h9 => h9) rfl dX5_lineCount_1 ?_
  exact hQ w_lines 4 ls h dX5_lineCount_4
set_option maxHeartbeats 4000000 in
theorem ctX5_lineCount (l : Launch) {D : va_G} {cI cT : ClassId} {wo w_ofX_a w_ofY_a w_places_a : Nat} {w_ofX : Nat → Int32} {w_ofY : Nat → Int32} {w_places : Nat → Int32} {w_lines : Int32} {res : Int32} (hm : mX5_lineCount w_lines = some res) : Met l yX5_lineCount wsX5_lineCount rmX5_lineCount (va_Pc [.ref wo] (kW D cI cT [(wo, .inr (2, [.ref w_ofX_a, .ref w_ofY_a, .ref w_places_a, .int w_lines])), (w_ofX_a, .inl (cI, 16, .inl w_ofX)), (w_ofY_a, .inl (cI, 16, .inl w_ofY)), (w_places_a, .inl (cI, 16, .inl w_places))] none (fun _ => False))) (kR (.int res)) 0 0 (fun _ => False) :=
  km (by decide) rfl (Nat.le_of_ble_eq_true rfl) (fun p e s m below meth c ls C hB hl => bX5_lineCount C hB.1 w_ofX w_ofY w_places w_lines hB.2.1 res (fun v pc ls h hd => kr_i C h hd) hm ls hl)
theorem wm_X5_hasLine_0 : Cond.fieldLink RX5 19 "SixtyTablet$Working" "lines" "I" ∈ wsX5_hasLine := by decide +kernel
theorem wi_X5_hasLine_X5 : ∀ w ∈ wsX50, w ∈ wsX5_hasLine := by decide +kernel
theorem kdvX5_hasLine : yX5_hasLine.cls = RX5 ∧ yX5_hasLine.cls ≠ "java/lang/invoke/MethodHandle" ∧ yX5_hasLine.cls ≠ "java/lang/invoke/VarHandle" ∧ (parseMethodDescriptor yX5_hasLine.desc).map (fun d => d.parameters.length) = some 1 := by decide +kernel
abbrev rmX5_hasLine : Room := { frames := 0, cells := 0, slots := 0, locals := 0 }
def mX5_hasLine (w_lines : Int32) (p1 : Int32) : Option Int32 := (if p1 < 0 then (some (0 : Int32)) else (if w_lines ≤ p1 then (some (0 : Int32)) else (if (16 : Int32) ≤ p1 then (some (0 : Int32)) else (some (1 : Int32)))))
set_option maxHeartbeats 4000000 in
set_option maxRecDepth 100000 in
theorem bX5_hasLine {p : Program} {l : Launch} {e : Env} {s : State} {m : MethodId} {args : Array Value} {below : List Frame} {meth : Method} {c : Code} {Q : State → Prop} (C : kc p s m args meth c cX5_hasLine 2 RX5 yX5_hasLine.name wsX5_hasLine (some .boolean)) {D : va_G} {cI cT : ClassId} {wo w_ofX_a w_ofY_a w_places_a : Nat} (p1 : Int32) (hK : va_K D vwCl (kTy cI cT) s) (w_ofX : Nat → Int32) (w_ofY : Nat → Int32) (w_places : Nat → Int32) (w_lines : Int32) (hP : va_P D vwCl [(wo, .inr (2, [.ref w_ofX_a, .ref w_ofY_a, .ref w_places_a, .int w_lines])), (w_ofX_a, .inl (cI, 16, .inl w_ofX)), (w_ofY_a, .inl (cI, 16, .inl w_ofY)), (w_places_a, .inl (cI, 16, .inl w_places))] s.heap) (res : Int32) (hQ : ∀ (v : Int32) (pc : Nat) (ls : Array Slot), v = 0 ∨ v = 1 → some v = some res → decode cX5_hasLine pc = .ok (.ireturn, 1) → W p l e rmX5_hasLine s m args below meth c s.heap [] 0 0 Q (F0 m pc ls [.int v])) : mX5_hasLine w_lines p1 = some res → ∀ (ls : Array Slot), lv_has ls 2 [(0, .ref wo), (1, .int p1)] → W p l e rmX5_hasLine s m args below meth c s.heap [] 0 0 Q (F0 m 0 ls []) := by
  intro h ls hl
  have C0 := C
  obtain ⟨hx, hb, hml, hown, hts, hr, hlk, hnm⟩ := C0
  rw [mX5_hasLine] at h
  refine lv_iload_n hx hb dX5_hasLine_0 rfl (lv_at hl 1 rfl) ?_
  refine lv_if_lt (tgt := 22) hx hb dX5_hasLine_1 (by decide) (fun c1 => ?_) (fun c1 => ?_)
  · replace h := md_t c1 h
    refine lv_iconst (v := 0) hx hb dX5_hasLine_22 (by decide) ?_
    exact hQ (0 : Int32) 23 ls (by decide) h dX5_hasLine_23
  replace h := md_f c1 h
  refine lv_iload_n hx hb dX5_hasLine_4 rfl (lv_at hl 1 rfl) ?_
  refine lv_aload_n hx hb dX5_hasLine_5 rfl (lv_at hl 0 rfl) ?_
  refine va_get (D := D) (ci := 2) (v := .int w_lines) (C := RX5) (T := TX5) (N := 4) hx hb hts wi_X5_hasLine_X5 hown hK hP 0 rfl rfl 3 (by decide) (hts _ wm_X5_hasLine_0) (fun _ h9 => h9) rfl dX5_hasLine_6 ?_
  refine lv_icmp_ge (tgt := 22) hx hb dX5_hasLine_9 (by decide) (fun c2 => ?_) (fun c2 => ?_)
  · replace h := md_t c2 h
    refine lv_iconst (v := 0) hx hb dX5_hasLine_22 (by decide) ?_
    exact hQ (0 : Int32) 23 ls (by decide) h dX5_hasLine_23
  replace h := md_f c2 h
  refine lv_iload_n hx hb dX5_hasLine_12 rfl (lv_at hl 1 rfl) ?_
  refine lv_bipush (v := 16) hx hb dX5_hasLine_13 (by decide) ?_
  refine lv_icmp_ge (tgt := 22) hx hb dX5_hasLine_15 (by decide) (fun c3 => ?_) (fun c3 => ?_)
  · replace h := md_t c3 h
    refine lv_iconst (v := 0) hx hb dX5_hasLine_22 (by decide) ?_
    exact hQ (0 : Int32) 23 ls (by decide) h dX5_hasLine_23
  replace h := md_f c3 h
  refine lv_iconst (v := 1) hx hb dX5_hasLine_18 (by decide) ?_
  refine lv_goto (tgt := 23) hx hb dX5_hasLine_19 (by decide) ?_
  exact hQ (1 : Int32) 23 ls (by decide) h dX5_hasLine_23
set_option maxHeartbeats 4000000 in
theorem ctX5_hasLine (l : Launch) {D : va_G} {cI cT : ClassId} {wo w_ofX_a w_ofY_a w_places_a : Nat} {w_ofX : Nat → Int32} {w_ofY : Nat → Int32} {w_places : Nat → Int32} {w_lines : Int32} {p1 : Int32} {res : Int32} (hm : mX5_hasLine w_lines p1 = some res) : Met l yX5_hasLine wsX5_hasLine rmX5_hasLine (va_Pc [.ref wo, .int p1] (kW D cI cT [(wo, .inr (2, [.ref w_ofX_a, .ref w_ofY_a, .ref w_places_a, .int w_lines])), (w_ofX_a, .inl (cI, 16, .inl w_ofX)), (w_ofY_a, .inl (cI, 16, .inl w_ofY)), (w_places_a, .inl (cI, 16, .inl w_places))] none (fun _ => False))) (kR (.int res)) 0 0 (fun _ => False) :=
  km (by decide) rfl (Nat.le_of_ble_eq_true rfl) (fun p e s m below meth c ls C hB hl => bX5_hasLine C p1 hB.1 w_ofX w_ofY w_places w_lines hB.2.1 res (fun v pc ls hz h hd => kr_z C hz h hd) hm ls hl)
theorem wm_X5_digitOfX_0 : Cond.fieldLink RX5 9 "SixtyTablet$Working" "ofX" "[I" ∈ wsX5_digitOfX := by decide +kernel
theorem wi_X5_digitOfX_X5 : ∀ w ∈ wsX50, w ∈ wsX5_digitOfX := by decide +kernel
theorem kdvX5_digitOfX : yX5_digitOfX.cls = RX5 ∧ yX5_digitOfX.cls ≠ "java/lang/invoke/MethodHandle" ∧ yX5_digitOfX.cls ≠ "java/lang/invoke/VarHandle" ∧ (parseMethodDescriptor yX5_digitOfX.desc).map (fun d => d.parameters.length) = some 1 := by decide +kernel
abbrev rmX5_digitOfX : Room := { frames := 1, cells := 0, slots := 0, locals := 21 }
def mX5_digitOfX (w_ofX : Nat → Int32) (w_lines : Int32) (p1 : Int32) : Option Int32 := (Option.bind (mX5_hasLine w_lines p1) (fun u1 => (if u1 = 0 then (some (0 : Int32)) else (if p1 < 0 ∨ 16 ≤ (Int32.toNatClampNeg p1) then none else (some (w_ofX (Int32.toNatClampNeg p1)))))))
set_option maxHeartbeats 4000000 in
set_option maxRecDepth 100000 in
theorem bX5_digitOfX {p : Program} {l : Launch} {e : Env} {s : State} {m : MethodId} {args : Array Value} {below : List Frame} {meth : Method} {c : Code} {Q : State → Prop} (C : kc p s m args meth c cX5_digitOfX 2 RX5 yX5_digitOfX.name wsX5_digitOfX (some .int)) {D : va_G} {cI cT : ClassId} {wo w_ofX_a w_ofY_a w_places_a : Nat} (p1 : Int32) (hK : va_K D vwCl (kTy cI cT) s) (w_ofX : Nat → Int32) (w_ofY : Nat → Int32) (w_places : Nat → Int32) (w_lines : Int32) (hP : va_P D vwCl [(wo, .inr (2, [.ref w_ofX_a, .ref w_ofY_a, .ref w_places_a, .int w_lines])), (w_ofX_a, .inl (cI, 16, .inl w_ofX)), (w_ofY_a, .inl (cI, 16, .inl w_ofY)), (w_places_a, .inl (cI, 16, .inl w_places))] s.heap) (res : Int32) (hQ : ∀ (v : Int32) (pc : Nat) (ls : Array Slot), some v = some res → decode cX5_digitOfX pc = .ok (.ireturn, 1) → W p l e rmX5_digitOfX s m args below meth c s.heap [] 0 0 Q (F0 m pc ls [.int v])) : mX5_digitOfX w_ofX w_lines p1 = some res → ∀ (ls : Array Slot), lv_has ls 2 [(0, .ref wo), (1, .int p1)] → W p l e rmX5_digitOfX s m args below meth c s.heap [] 0 0 Q (F0 m 0 ls []) := by
  intro h ls hl
  have C0 := C
  obtain ⟨hx, hb, hml, hown, hts, hr, hlk, hnm⟩ := C0
  rw [mX5_digitOfX] at h
  refine lv_aload_n hx hb dX5_digitOfX_0 rfl (lv_at hl 0 rfl) ?_
  refine lv_iload_n hx hb dX5_digitOfX_1 rfl (lv_at hl 1 rfl) ?_
  obtain ⟨u1, hu1, h⟩ := md_b h
  refine kV C (ctX5_hasLine l  hu1) gX5_digitOfX_X5_hasLine rfl kdvX5_hasLine ⟨rfl, rfl⟩ ⟨by decide, by decide⟩ kW_blind (va_recv hK hP (ci := 2) (q0 := 0) rfl rfl) (kW_use hK (hP.sub (ws' := [(wo, .inr (2, [.ref w_ofX_a, .ref w_ofY_a, .ref w_places_a, .int w_lines])), (w_ofX_a, .inl (cI, 16, .inl w_ofX)), (w_ofY_a, .inl (cI, 16, .inl w_ofY)), (w_places_a, .inl (cI, 16, .inl w_places))]) [0, 1, 2, 3] rfl) kL_no) rfl hl [] rfl (Nat.le_of_ble_eq_true rfl) dX5_digitOfX_2 ⟨by decide, by decide⟩ ?_
  refine lv_if_eq (tgt := 17) hx hb dX5_digitOfX_5 (by decide) (fun c2 => ?_) (fun c2 => ?_)
  · replace h := md_t c2 h
    refine lv_iconst (v := 0) hx hb dX5_digitOfX_17 (by decide) ?_
    exact hQ (0 : Int32) 18 ls h dX5_digitOfX_18
  replace h := md_f c2 h
  refine lv_aload_n hx hb dX5_digitOfX_8 rfl (lv_at hl 0 rfl) ?_
  refine va_get (D := D) (ci := 2) (v := .ref w_ofX_a) (C := RX5) (T := TX5) (N := 4) hx hb hts wi_X5_digitOfX_X5 hown hK hP 0 rfl rfl 0 (by decide) (hts _ wm_X5_digitOfX_0) (fun _ h9 => h9) rfl dX5_digitOfX_9 ?_
  refine lv_iload_n hx hb dX5_digitOfX_12 rfl (lv_at hl 1 rfl) ?_
  obtain ⟨hin3, h⟩ := md_g h
  refine va_iald hx hb hK hP 1 0 rfl rfl hin3 dX5_digitOfX_13 ?_
  refine lv_goto (tgt := 18) hx hb dX5_digitOfX_14 (by decide) ?_
  exact hQ (w_ofX (Int32.toNatClampNeg p1)) 18 ls h dX5_digitOfX_18
set_option maxHeartbeats 4000000 in
theorem ctX5_digitOfX (l : Launch) {D : va_G} {cI cT : ClassId} {wo w_ofX_a w_ofY_a w_places_a : Nat} {w_ofX : Nat → Int32} {w_ofY : Nat → Int32} {w_places : Nat → Int32} {w_lines : Int32} {p1 : Int32} {res : Int32} (hm : mX5_digitOfX w_ofX w_lines p1 = some res) : Met l yX5_digitOfX wsX5_digitOfX rmX5_digitOfX (va_Pc [.ref wo, .int p1] (kW D cI cT [(wo, .inr (2, [.ref w_ofX_a, .ref w_ofY_a, .ref w_places_a, .int w_lines])), (w_ofX_a, .inl (cI, 16, .inl w_ofX)), (w_ofY_a, .inl (cI, 16, .inl w_ofY)), (w_places_a, .inl (cI, 16, .inl w_places))] none (fun _ => False))) (kR (.int res)) 0 0 (fun _ => False) :=
  km (by decide) rfl (Nat.le_of_ble_eq_true rfl) (fun p e s m below meth c ls C hB hl => bX5_digitOfX C p1 hB.1 w_ofX w_ofY w_places w_lines hB.2.1 res (fun v pc ls h hd => kr_i C h hd) hm ls hl)
theorem wm_X5_digitOfY_0 : Cond.fieldLink RX5 13 "SixtyTablet$Working" "ofY" "[I" ∈ wsX5_digitOfY := by decide +kernel
theorem wi_X5_digitOfY_X5 : ∀ w ∈ wsX50, w ∈ wsX5_digitOfY := by decide +kernel
theorem kdvX5_digitOfY : yX5_digitOfY.cls = RX5 ∧ yX5_digitOfY.cls ≠ "java/lang/invoke/MethodHandle" ∧ yX5_digitOfY.cls ≠ "java/lang/invoke/VarHandle" ∧ (parseMethodDescriptor yX5_digitOfY.desc).map (fun d => d.parameters.length) = some 1 := by decide +kernel
abbrev rmX5_digitOfY : Room := { frames := 1, cells := 0, slots := 0, locals := 21 }
def mX5_digitOfY (w_ofY : Nat → Int32) (w_lines : Int32) (p1 : Int32) : Option Int32 := (Option.bind (mX5_hasLine w_lines p1) (fun u1 => (if u1 = 0 then (some (0 : Int32)) else (if p1 < 0 ∨ 16 ≤ (Int32.toNatClampNeg p1) then none else (some (w_ofY (Int32.toNatClampNeg p1)))))))
set_option maxHeartbeats 4000000 in
set_option maxRecDepth 100000 in
theorem bX5_digitOfY {p : Program} {l : Launch} {e : Env} {s : State} {m : MethodId} {args : Array Value} {below : List Frame} {meth : Method} {c : Code} {Q : State → Prop} (C : kc p s m args meth c cX5_digitOfY 2 RX5 yX5_digitOfY.name wsX5_digitOfY (some .int)) {D : va_G} {cI cT : ClassId} {wo w_ofX_a w_ofY_a w_places_a : Nat} (p1 : Int32) (hK : va_K D vwCl (kTy cI cT) s) (w_ofX : Nat → Int32) (w_ofY : Nat → Int32) (w_places : Nat → Int32) (w_lines : Int32) (hP : va_P D vwCl [(wo, .inr (2, [.ref w_ofX_a, .ref w_ofY_a, .ref w_places_a, .int w_lines])), (w_ofX_a, .inl (cI, 16, .inl w_ofX)), (w_ofY_a, .inl (cI, 16, .inl w_ofY)), (w_places_a, .inl (cI, 16, .inl w_places))] s.heap) (res : Int32) (hQ : ∀ (v : Int32) (pc : Nat) (ls : Array Slot), some v = some res → decode cX5_digitOfY pc = .ok (.ireturn, 1) → W p l e rmX5_digitOfY s m args below meth c s.heap [] 0 0 Q (F0 m pc ls [.int v])) : mX5_digitOfY w_ofY w_lines p1 = some res → ∀ (ls : Array Slot), lv_has ls 2 [(0, .ref wo), (1, .int p1)] → W p l e rmX5_digitOfY s m args below meth c s.heap [] 0 0 Q (F0 m 0 ls []) := by
  intro h ls hl
  have C0 := C
  obtain ⟨hx, hb, hml, hown, hts, hr, hlk, hnm⟩ := C0
  rw [mX5_digitOfY] at h
  refine lv_aload_n hx hb dX5_digitOfY_0 rfl (lv_at hl 0 rfl) ?_
  refine lv_iload_n hx hb dX5_digitOfY_1 rfl (lv_at hl 1 rfl) ?_
  obtain ⟨u1, hu1, h⟩ := md_b h
  refine kV C (ctX5_hasLine l  hu1) gX5_digitOfY_X5_hasLine rfl kdvX5_hasLine ⟨rfl, rfl⟩ ⟨by decide, by decide⟩ kW_blind (va_recv hK hP (ci := 2) (q0 := 0) rfl rfl) (kW_use hK (hP.sub (ws' := [(wo, .inr (2, [.ref w_ofX_a, .ref w_ofY_a, .ref w_places_a, .int w_lines])), (w_ofX_a, .inl (cI, 16, .inl w_ofX)), (w_ofY_a, .inl (cI, 16, .inl w_ofY)), (w_places_a, .inl (cI, 16, .inl w_places))]) [0, 1, 2, 3] rfl) kL_no) rfl hl [] rfl (Nat.le_of_ble_eq_true rfl) dX5_digitOfY_2 ⟨by decide, by decide⟩ ?_
  refine lv_if_eq (tgt := 17) hx hb dX5_digitOfY_5 (by decide) (fun c2 => ?_) (fun c2 => ?_)
  · replace h := md_t c2 h
    refine lv_iconst (v := 0) hx hb dX5_digitOfY_17 (by decide) ?_
    exact hQ (0 : Int32) 18 ls h dX5_digitOfY_18
  replace h := md_f c2 h
  refine lv_aload_n hx hb dX5_digitOfY_8 rfl (lv_at hl 0 rfl) ?_
  refine va_get (D := D) (ci := 2) (v := .ref w_ofY_a) (C := RX5) (T := TX5) (N := 4) hx hb hts wi_X5_digitOfY_X5 hown hK hP 0 rfl rfl 1 (by decide) (hts _ wm_X5_digitOfY_0) (fun _ h9 => h9) rfl dX5_digitOfY_9 ?_
  refine lv_iload_n hx hb dX5_digitOfY_12 rfl (lv_at hl 1 rfl) ?_
  obtain ⟨hin3, h⟩ := md_g h
  refine va_iald hx hb hK hP 2 0 rfl rfl hin3 dX5_digitOfY_13 ?_
  refine lv_goto (tgt := 18) hx hb dX5_digitOfY_14 (by decide) ?_
  exact hQ (w_ofY (Int32.toNatClampNeg p1)) 18 ls h dX5_digitOfY_18
set_option maxHeartbeats 4000000 in
theorem ctX5_digitOfY (l : Launch) {D : va_G} {cI cT : ClassId} {wo w_ofX_a w_ofY_a w_places_a : Nat} {w_ofX : Nat → Int32} {w_ofY : Nat → Int32} {w_places : Nat → Int32} {w_lines : Int32} {p1 : Int32} {res : Int32} (hm : mX5_digitOfY w_ofY w_lines p1 = some res) : Met l yX5_digitOfY wsX5_digitOfY rmX5_digitOfY (va_Pc [.ref wo, .int p1] (kW D cI cT [(wo, .inr (2, [.ref w_ofX_a, .ref w_ofY_a, .ref w_places_a, .int w_lines])), (w_ofX_a, .inl (cI, 16, .inl w_ofX)), (w_ofY_a, .inl (cI, 16, .inl w_ofY)), (w_places_a, .inl (cI, 16, .inl w_places))] none (fun _ => False))) (kR (.int res)) 0 0 (fun _ => False) :=
  km (by decide) rfl (Nat.le_of_ble_eq_true rfl) (fun p e s m below meth c ls C hB hl => bX5_digitOfY C p1 hB.1 w_ofX w_ofY w_places w_lines hB.2.1 res (fun v pc ls h hd => kr_i C h hd) hm ls hl)
theorem wm_X5_place_0 : Cond.fieldLink RX5 16 "SixtyTablet$Working" "places" "[I" ∈ wsX5_place := by decide +kernel
theorem wi_X5_place_X5 : ∀ w ∈ wsX50, w ∈ wsX5_place := by decide +kernel
theorem kdvX5_place : yX5_place.cls = RX5 ∧ yX5_place.cls ≠ "java/lang/invoke/MethodHandle" ∧ yX5_place.cls ≠ "java/lang/invoke/VarHandle" ∧ (parseMethodDescriptor yX5_place.desc).map (fun d => d.parameters.length) = some 1 := by decide +kernel
abbrev rmX5_place : Room := { frames := 1, cells := 0, slots := 0, locals := 21 }
def mX5_place (w_places : Nat → Int32) (w_lines : Int32) (p1 : Int32) : Option Int32 := (Option.bind (mX5_hasLine w_lines p1) (fun u1 => (if u1 = 0 then (some (0 : Int32)) else (if p1 < 0 ∨ 16 ≤ (Int32.toNatClampNeg p1) then none else (some (w_places (Int32.toNatClampNeg p1)))))))
set_option maxHeartbeats 4000000 in
set_option maxRecDepth 100000 in
theorem bX5_place {p : Program} {l : Launch} {e : Env} {s : State} {m : MethodId} {args : Array Value} {below : List Frame} {meth : Method} {c : Code} {Q : State → Prop} (C : kc p s m args meth c cX5_place 2 RX5 yX5_place.name wsX5_place (some .int)) {D : va_G} {cI cT : ClassId} {wo w_ofX_a w_ofY_a w_places_a : Nat} (p1 : Int32) (hK : va_K D vwCl (kTy cI cT) s) (w_ofX : Nat → Int32) (w_ofY : Nat → Int32) (w_places : Nat → Int32) (w_lines : Int32) (hP : va_P D vwCl [(wo, .inr (2, [.ref w_ofX_a, .ref w_ofY_a, .ref w_places_a, .int w_lines])), (w_ofX_a, .inl (cI, 16, .inl w_ofX)), (w_ofY_a, .inl (cI, 16, .inl w_ofY)), (w_places_a, .inl (cI, 16, .inl w_places))] s.heap) (res : Int32) (hQ : ∀ (v : Int32) (pc : Nat) (ls : Array Slot), some v = some res → decode cX5_place pc = .ok (.ireturn, 1) → W p l e rmX5_place s m args below meth c s.heap [] 0 0 Q (F0 m pc ls [.int v])) : mX5_place w_places w_lines p1 = some res → ∀ (ls : Array Slot), lv_has ls 2 [(0, .ref wo), (1, .int p1)] → W p l e rmX5_place s m args below meth c s.heap [] 0 0 Q (F0 m 0 ls []) := by
  intro h ls hl
  have C0 := C
  obtain ⟨hx, hb, hml, hown, hts, hr, hlk, hnm⟩ := C0
  rw [mX5_place] at h
  refine lv_aload_n hx hb dX5_place_0 rfl (lv_at hl 0 rfl) ?_
  refine lv_iload_n hx hb dX5_place_1 rfl (lv_at hl 1 rfl) ?_
  obtain ⟨u1, hu1, h⟩ := md_b h
  refine kV C (ctX5_hasLine l  hu1) gX5_place_X5_hasLine rfl kdvX5_hasLine ⟨rfl, rfl⟩ ⟨by decide, by decide⟩ kW_blind (va_recv hK hP (ci := 2) (q0 := 0) rfl rfl) (kW_use hK (hP.sub (ws' := [(wo, .inr (2, [.ref w_ofX_a, .ref w_ofY_a, .ref w_places_a, .int w_lines])), (w_ofX_a, .inl (cI, 16, .inl w_ofX)), (w_ofY_a, .inl (cI, 16, .inl w_ofY)), (w_places_a, .inl (cI, 16, .inl w_places))]) [0, 1, 2, 3] rfl) kL_no) rfl hl [] rfl (Nat.le_of_ble_eq_true rfl) dX5_place_2 ⟨by decide, by decide⟩ ?_
  refine lv_if_eq (tgt := 17) hx hb dX5_place_5 (by decide) (fun c2 => ?_) (fun c2 => ?_)
  · replace h := md_t c2 h
    refine lv_iconst (v := 0) hx hb dX5_place_17 (by decide) ?_
    exact hQ (0 : Int32) 18 ls h dX5_place_18
  replace h := md_f c2 h
  refine lv_aload_n hx hb dX5_place_8 rfl (lv_at hl 0 rfl) ?_
  refine va_get (D := D) (ci := 2) (v := .ref w_places_a) (C := RX5) (T := TX5) (N := 4) hx hb hts wi_X5_place_X5 hown hK hP 0 rfl rfl 2 (by decide) (hts _ wm_X5_place_0) (fun _ h9 => h9) rfl dX5_place_9 ?_
  refine lv_iload_n hx hb dX5_place_12 rfl (lv_at hl 1 rfl) ?_
  obtain ⟨hin3, h⟩ := md_g h
  refine va_iald hx hb hK hP 3 0 rfl rfl hin3 dX5_place_13 ?_
  refine lv_goto (tgt := 18) hx hb dX5_place_14 (by decide) ?_
  exact hQ (w_places (Int32.toNatClampNeg p1)) 18 ls h dX5_place_18
set_option maxHeartbeats 4000000 in
theorem ctX5_place (l : Launch) {D : va_G} {cI cT : ClassId} {wo w_ofX_a w_ofY_a w_places_a : Nat} {w_ofX : Nat → Int32} {w_ofY : Nat → Int32} {w_places : Nat → Int32} {w_lines : Int32} {p1 : Int32} {res : Int32} (hm : mX5_place w_places w_lines p1 = some res) : Met l yX5_place wsX5_place rmX5_place (va_Pc [.ref wo, .int p1] (kW D cI cT [(wo, .inr (2, [.ref w_ofX_a, .ref w_ofY_a, .ref w_places_a, .int w_lines])), (w_ofX_a, .inl (cI, 16, .inl w_ofX)), (w_ofY_a, .inl (cI, 16, .inl w_ofY)), (w_places_a, .inl (cI, 16, .inl w_places))] none (fun _ => False))) (kR (.int res)) 0 0 (fun _ => False) :=
  km (by decide) rfl (Nat.le_of_ble_eq_true rfl) (fun p e s m below meth c ls C hB hl => bX5_place C p1 hB.1 w_ofX w_ofY w_places w_lines hB.2.1 res (fun v pc ls h hd => kr_i C h hd) hm ls hl)
theorem kdvX5_product : yX5_product.cls = RX5 ∧ yX5_product.cls ≠ "java/lang/invoke/MethodHandle" ∧ yX5_product.cls ≠ "java/lang/invoke/VarHandle" ∧ (parseMethodDescriptor yX5_product.desc).map (fun d => d.parameters.length) = some 1 := by decide +kernel
abbrev rmX5_product : Room := { frames := 2, cells := 0, slots := 0, locals := 42 }
def mX5_product (w_ofX : Nat → Int32) (w_ofY : Nat → Int32) (w_lines : Int32) (p1 : Int32) : Option Int32 := (Option.bind (mX5_digitOfX w_ofX w_lines p1) (fun u1 => (Option.bind (mX5_digitOfY w_ofY w_lines p1) (fun u2 => (some (u1 * u2))))))
set_option maxHeartbeats 4000000 in
set_option maxRecDepth 100000 in
theorem bX5_product {p : Program} {l : Launch} {e : Env} {s : State} {m : MethodId} {args : Array Value} {below : List Frame} {meth : Method} {c : Code} {Q : State → Prop} (C : kc p s m args meth c cX5_product 2 RX5 yX5_product.name wsX5_product (some .int)) {D : va_G} {cI cT : ClassId} {wo w_ofX_a w_ofY_a w_places_a : Nat} (p1 : Int32) (hK : va_K D vwCl (kTy cI cT) s) (w_ofX : Nat → Int32) (w_ofY : Nat → Int32) (w_places : Nat → Int32) (w_lines : Int32) (hP : va_P D vwCl [(wo, .inr (2, [.ref w_ofX_a, .ref w_ofY_a, .ref w_places_a, .int w_lines])), (w_ofX_a, .inl (cI, 16, .inl w_ofX)), (w_ofY_a, .inl (cI, 16, .inl w_ofY)), (w_places_a, .inl (cI, 16, .inl w_places))] s.heap) (res : Int32) (hQ : ∀ (v : Int32) (pc : Nat) (ls : Array Slot), some v = some res → decode cX5_product pc = .ok (.ireturn, 1) → W p l e rmX5_product s m args below meth c s.heap [] 0 0 Q (F0 m pc ls [.int v])) : mX5_product w_ofX w_ofY w_lines p1 = some res → ∀ (ls : Array Slot), lv_has ls 2 [(0, .ref wo), (1, .int p1)] → W p l e rmX5_product s m args below meth c s.heap [] 0 0 Q (F0 m 0 ls []) := by
  intro h ls hl
  have C0 := C
  obtain ⟨hx, hb, hml, hown, hts, hr, hlk, hnm⟩ := C0
  rw [mX5_product] at h
  refine lv_aload_n hx hb dX5_product_0 rfl (lv_at hl 0 rfl) ?_
  refine lv_iload_n hx hb dX5_product_1 rfl (lv_at hl 1 rfl) ?_
  obtain ⟨u1, hu1, h⟩ := md_b h
  refine kV C (ctX5_digitOfX l  hu1) gX5_product_X5_digitOfX rfl kdvX5_digitOfX ⟨rfl, rfl⟩ ⟨by decide, by decide⟩ kW_blind (va_recv hK hP (ci := 2) (q0 := 0) rfl rfl) (kW_use hK (hP.sub (ws' := [(wo, .inr (2, [.ref w_ofX_a, .ref w_ofY_a, .ref w_places_a, .int w_lines])), (w_ofX_a, .inl (cI, 16, .inl w_ofX)), (w_ofY_a, .inl (cI, 16, .inl w_ofY)), (w_places_a, .inl (cI, 16, .inl w_places))]) [0, 1, 2, 3] rfl) kL_no) rfl hl [] rfl (Nat.le_of_ble_eq_true rfl) dX5_product_2 ⟨by decide, by decide⟩ ?_
  refine lv_aload_n hx hb dX5_product_5 rfl (lv_at hl 0 rfl) ?_
  refine lv_iload_n hx hb dX5_product_6 rfl (lv_at hl 1 rfl) ?_
  obtain ⟨u2, hu2, h⟩ := md_b h
  refine kV C (ctX5_digitOfY l  hu2) gX5_product_X5_digitOfY rfl kdvX5_digitOfY ⟨rfl, rfl⟩ ⟨by decide, by decide⟩ kW_blind (va_recv hK hP (ci := 2) (q0 := 0) rfl rfl) (kW_use hK (hP.sub (ws' := [(wo, .inr (2, [.ref w_ofX_a, .ref w_ofY_a, .ref w_places_a, .int w_lines])), (w_ofX_a, .inl (cI, 16, .inl w_ofX)), (w_ofY_a, .inl (cI, 16, .inl w_ofY)), (w_places_a, .inl (cI, 16, .inl w_places))]) [0, 1, 2, 3] rfl) kL_no) rfl hl [.int u1] rfl (Nat.le_of_ble_eq_true rfl) dX5_product_7 ⟨by decide, by decide⟩ ?_
  refine lv_imul hx hb dX5_product_10 ?_
  exact hQ (u1 * u2) 11 ls h dX5_product_11
set_option maxHeartbeats 4000000 in
theorem ctX5_product (l : Launch) {D : va_G} {cI cT : ClassId} {wo w_ofX_a w_ofY_a w_places_a : Nat} {w_ofX : Nat → Int32} {w_ofY : Nat → Int32} {w_places : Nat → Int32} {w_lines : Int32} {p1 : Int32} {res : Int32} (hm : mX5_product w_ofX w_ofY w_lines p1 = some res) : Met l yX5_product wsX5_product rmX5_product (va_Pc [.ref wo, .int p1] (kW D cI cT [(wo, .inr (2, [.ref w_ofX_a, .ref w_ofY_a, .ref w_places_a, .int w_lines])), (w_ofX_a, .inl (cI, 16, .inl w_ofX)), (w_ofY_a, .inl (cI, 16, .inl w_ofY)), (w_places_a, .inl (cI, 16, .inl w_places))] none (fun _ => False))) (kR (.int res)) 0 0 (fun _ => False) :=
  km (by decide) rfl (Nat.le_of_ble_eq_true rfl) (fun p e s m below meth c ls C hB hl => bX5_product C p1 hB.1 w_ofX w_ofY w_places w_lines hB.2.1 res (fun v pc ls h hd => kr_i C h hd) hm ls hl)
theorem kdvX5_worth : yX5_worth.cls = RX5 ∧ yX5_worth.cls ≠ "java/lang/invoke/MethodHandle" ∧ yX5_worth.cls ≠ "java/lang/invoke/VarHandle" ∧ (parseMethodDescriptor yX5_worth.desc).map (fun d => d.parameters.length) = some 1 := by decide +kernel
abbrev rmX5_worth : Room := { frames := 3, cells := 0, slots := 0, locals := 63 }
def mX5_worth (w_ofX : Nat → Int32) (w_ofY : Nat → Int32) (w_places : Nat → Int32) (w_lines : Int32) (p1 : Int32) : Option Int64 := (Option.bind (mX5_product w_ofX w_ofY w_lines p1) (fun u1 => (Option.bind (mX5_place w_places w_lines p1) (fun u2 => (Option.bind (mX1_atPlace (Int32.toInt64 u1) u2) (fun u3 => (some u3)))))))
set_option maxHeartbeats 4000000 in
set_option maxRecDepth 100000 in
theorem bX5_worth {p : Program} {l : Launch} {e : Env} {s : State} {m : MethodId} {args : Array Value} {below : List Frame} {meth : Method} {c : Code} {Q : State → Prop} (C : kc p s m args meth c cX5_worth 2 RX5 yX5_worth.name wsX5_worth (some .long)) {D : va_G} {cI cT : ClassId} {wo w_ofX_a w_ofY_a w_places_a : Nat} (p1 : Int32) (hK : va_K D vwCl (kTy cI cT) s) (w_ofX : Nat → Int32) (w_ofY : Nat → Int32) (w_places : Nat → Int32) (w_lines : Int32) (hP : va_P D vwCl [(wo, .inr (2, [.ref w_ofX_a, .ref w_ofY_a, .ref w_places_a, .int w_lines])), (w_ofX_a, .inl (cI, 16, .inl w_ofX)), (w_ofY_a, .inl (cI, 16, .inl w_ofY)), (w_places_a, .inl (cI, 16, .inl w_places))] s.heap) (res : Int64) (hQ : ∀ (v : Int64) (pc : Nat) (ls : Array Slot), some v = some res → decode cX5_worth pc = .ok (.lreturn, 1) → W p l e rmX5_worth s m args below meth c s.heap [] 0 0 Q (F0 m pc ls [.long v])) : mX5_worth w_ofX w_ofY w_places w_lines p1 = some res → ∀ (ls : Array Slot), lv_has ls 2 [(0, .ref wo), (1, .int p1)] → W p l e rmX5_worth s m args below meth c s.heap [] 0 0 Q (F0 m 0 ls []) := by
  intro h ls hl
  have C0 := C
  obtain ⟨hx, hb, hml, hown, hts, hr, hlk, hnm⟩ := C0
  rw [mX5_worth] at h
  refine lv_aload_n hx hb dX5_worth_0 rfl (lv_at hl 0 rfl) ?_
  refine lv_iload_n hx hb dX5_worth_1 rfl (lv_at hl 1 rfl) ?_
  obtain ⟨u1, hu1, h⟩ := md_b h
  refine kV C (ctX5_product l  hu1) gX5_worth_X5_product rfl kdvX5_product ⟨rfl, rfl⟩ ⟨by decide, by decide⟩ kW_blind (va_recv hK hP (ci := 2) (q0 := 0) rfl rfl) (kW_use hK (hP.sub (ws' := [(wo, .inr (2, [.ref w_ofX_a, .ref w_ofY_a, .ref w_places_a, .int w_lines])), (w_ofX_a, .inl (cI, 16, .inl w_ofX)), (w_ofY_a, .inl (cI, 16, .inl w_ofY)), (w_places_a, .inl (cI, 16, .inl w_places))]) [0, 1, 2, 3] rfl) kL_no) rfl hl [] rfl (Nat.le_of_ble_eq_true rfl) dX5_worth_2 ⟨by decide, by decide⟩ ?_
  refine lv_i2l hx hb dX5_worth_5 rfl ?_
  refine lv_aload_n hx hb dX5_worth_6 rfl (lv_at hl 0 rfl) ?_
  refine lv_iload_n hx hb dX5_worth_7 rfl (lv_at hl 1 rfl) ?_
  obtain ⟨u2, hu2, h⟩ := md_b h
  refine kV C (ctX5_place l  hu2) gX5_worth_X5_place rfl kdvX5_place ⟨rfl, rfl⟩ ⟨by decide, by decide⟩ kW_blind (va_recv hK hP (ci := 2) (q0 := 0) rfl rfl) (kW_use hK (hP.sub (ws' := [(wo, .inr (2, [.ref w_ofX_a, .ref w_ofY_a, .ref w_places_a, .int w_lines])), (w_ofX_a, .inl (cI, 16, .inl w_ofX)), (w_ofY_a, .inl (cI, 16, .inl w_ofY)), (w_places_a, .inl (cI, 16, .inl w_places))]) [0, 1, 2, 3] rfl) kL_no) rfl hl [.long (Int32.toInt64 u1)] rfl (Nat.le_of_ble_eq_true rfl) dX5_worth_8 ⟨by decide, by decide⟩ ?_
  obtain ⟨u3, hu3, h⟩ := md_b h
  refine kS C (ctX1_atPlace l  hu3) gX5_worth_X1_atPlace rfl kdX1_atPlace ⟨rfl, rfl⟩ ⟨by decide, by decide⟩ kT_blind (fun _ _ _ => trivial) rfl hl [] rfl (Nat.le_of_ble_eq_true rfl) dX5_worth_11 ⟨by decide, by decide⟩ ?_
  exact hQ u3 14 ls h dX5_worth_14
set_option maxHeartbeats 4000000 in
theorem ctX5_worth (l : Launch) {D : va_G} {cI cT : ClassId} {wo w_ofX_a w_ofY_a w_places_a : Nat} {w_ofX : Nat → Int32} {w_ofY : Nat → Int32} {w_places : Nat → Int32} {w_lines : Int32} {p1 : Int32} {res : Int64} (hm : mX5_worth w_ofX w_ofY w_places w_lines p1 = some res) : Met l yX5_worth wsX5_worth rmX5_worth (va_Pc [.ref wo, .int p1] (kW D cI cT [(wo, .inr (2, [.ref w_ofX_a, .ref w_ofY_a, .ref w_places_a, .int w_lines])), (w_ofX_a, .inl (cI, 16, .inl w_ofX)), (w_ofY_a, .inl (cI, 16, .inl w_ofY)), (w_places_a, .inl (cI, 16, .inl w_places))] none (fun _ => False))) (kR (.long res)) 0 0 (fun _ => False) :=
  km (by decide) rfl (Nat.le_of_ble_eq_true rfl) (fun p e s m below meth c ls C hB hl => bX5_worth C p1 hB.1 w_ofX w_ofY w_places w_lines hB.2.1 res (fun v pc ls h hd => kr_l C h hd) hm ls hl)
theorem kdvX5_sumUpTo : yX5_sumUpTo.cls = RX5 ∧ yX5_sumUpTo.cls ≠ "java/lang/invoke/MethodHandle" ∧ yX5_sumUpTo.cls ≠ "java/lang/invoke/VarHandle" ∧ (parseMethodDescriptor yX5_sumUpTo.desc).map (fun d => d.parameters.length) = some 1 := by decide +kernel
abbrev rmX5_sumUpTo : Room := { frames := 4, cells := 0, slots := 0, locals := 84 }
def mlX5_sumUpTo_5 (x1 : Int32) (w_ofX : Nat → Int32) (w_ofY : Nat → Int32) (w_places : Nat → Int32) (w_lines : Int32) (kE : Int64 → Option Int64) : Nat → Int64 → Int32 → Option Int64
  | 0, _, _ => none
  | n + 1, x2, x4 => (if x1 < x4 then (kE x2) else (if (16 : Int32) ≤ x4 then (kE x2) else (Option.bind (mX5_worth w_ofX w_ofY w_places w_lines x4) (fun u3 => (md_let (x2 + u3) (fun (x2_4 : Int64) => (md_let (x4 + (1 : Int32)) (fun (x4_5 : Int32) => (mlX5_sumUpTo_5 x1 w_ofX w_ofY w_places w_lines kE n x2_4 x4_5)))))))))
set_option maxHeartbeats 4000000 in
set_option maxRecDepth 100000 in
theorem lX5_sumUpTo_5 {p : Program} {l : Launch} {e : Env} {s : State} {m : MethodId} {args : Array Value} {below : List Frame} {meth : Method} {c : Code} {Q : State → Prop} (C : kc p s m args meth c cX5_sumUpTo 5 RX5 yX5_sumUpTo.name wsX5_sumUpTo (some .long)) {D : va_G} {cI cT : ClassId} {wo w_ofX_a w_ofY_a w_places_a : Nat} (hK : va_K D vwCl (kTy cI cT) s) (x1 : Int32) (w_ofX : Nat → Int32) (w_ofY : Nat → Int32) (w_places : Nat → Int32) (w_lines : Int32) (hP : va_P D vwCl [(wo, .inr (2, [.ref w_ofX_a, .ref w_ofY_a, .ref w_places_a, .int w_lines])), (w_ofX_a, .inl (cI, 16, .inl w_ofX)), (w_ofY_a, .inl (cI, 16, .inl w_ofY)), (w_places_a, .inl (cI, 16, .inl w_places))] s.heap) (res : Int64) (hQ : ∀ (v : Int64) (pc : Nat) (ls : Array Slot), some v = some res → decode cX5_sumUpTo pc = .ok (.lreturn, 1) → W p l e rmX5_sumUpTo s m args below meth c s.heap [] 0 0 Q (F0 m pc ls [.long v])) (kE : Int64 → Option Int64) (hE : ∀ (y2 : Int64), kE y2 = some res → ∀ (ls : Array Slot), lv_has ls 5 [(2, .long y2)] → W p l e rmX5_sumUpTo s m args below meth c s.heap [] 0 0 Q (F0 m 33 ls [])) : ∀ (n : Nat), ∀ (x2 : Int64) (x4 : Int32), mlX5_sumUpTo_5 x1 w_ofX w_ofY w_places w_lines kE n x2 x4 = some res → ∀ (ls : Array Slot), lv_has ls 5 [(0, .ref wo), (1, .int x1), (2, .long x2), (4, .int x4)] → W p l e rmX5_sumUpTo s m args below meth c s.heap [] 0 0 Q (F0 m 5 ls []) := by
  have C0 := C
  obtain ⟨hx, hb, hml, hown, hts, hr, hlk, hnm⟩ := C0
  intro n
  induction n with
  | zero => intro _ _ h; exact md_x h
  | succ n ih =>
    intro x2 x4 h ls hl
    rw [mlX5_sumUpTo_5] at h
    refine lv_iload hx hb dX5_sumUpTo_5 (lv_at hl 3 rfl) ?_
    refine lv_iload_n hx hb dX5_sumUpTo_7 rfl (lv_at hl 1 rfl) ?_
    refine lv_icmp_gt (tgt := 33) hx hb dX5_sumUpTo_8 (by decide) (fun c1 => ?_) (fun c1 => ?_)
    · replace h := md_t c1 h
      exact hE x2 h ls (lv_sub hl [2] rfl)
    replace h := md_f c1 h
    refine lv_iload hx hb dX5_sumUpTo_11 (lv_at hl 3 rfl) ?_
    refine lv_bipush (v := 16) hx hb dX5_sumUpTo_13 (by decide) ?_
    refine lv_icmp_ge (tgt := 33) hx hb dX5_sumUpTo_15 (by decide) (fun c2 => ?_) (fun c2 => ?_)
    · replace h := md_t c2 h
      exact hE x2 h ls (lv_sub hl [2] rfl)
    replace h := md_f c2 h
    refine lv_lload_n hx hb dX5_sumUpTo_18 rfl (lv_at hl 2 rfl) ?_
    refine lv_aload_n hx hb dX5_sumUpTo_19 rfl (lv_at hl 0 rfl) ?_
    refine lv_iload hx hb dX5_sumUpTo_20 (lv_at hl 3 rfl) ?_
    obtain ⟨u3, hu3, h⟩ := md_b h
    refine kV C (ctX5_worth l  hu3) gX5_sumUpTo_X5_worth rfl kdvX5_worth ⟨rfl, rfl⟩ ⟨by decide, by decide⟩ kW_blind (va_recv hK hP (ci := 2) (q0 := 0) rfl rfl) (kW_use hK (hP.sub (ws' := [(wo, .inr (2, [.ref w_ofX_a, .ref w_ofY_a, .ref w_places_a, .int w_lines])), (w_ofX_a, .inl (cI, 16, .inl w_ofX)), (w_ofY_a, .inl (cI, 16, .inl w_ofY)), (w_places_a, .inl (cI, 16, .inl w_places))]) [0, 1, 2, 3] rfl) kL_no) rfl hl [.long x2] rfl (Nat.le_of_ble_eq_true rfl) dX5_sumUpTo_22 ⟨by decide, by decide⟩ ?_
    refine lv_ladd hx hb dX5_sumUpTo_25 ?_
    refine lv_topl (fun x2_4 ex2_4 => ?_)
    replace h := md_le ex2_4 h
    refine lv_lstore_n (lv' := [(2, .long x2_4), (0, .ref wo), (1, .int x1), (4, .int x4)]) hx hb dX5_sumUpTo_26 rfl hl (by decide) rfl (fun ls hl => ?_)
    obtain ⟨x4_5, ex4_5⟩ : ∃ y : Int32, y = (x4 + (1 : Int32)) := ⟨_, rfl⟩
    replace h := md_le ex4_5 h
    refine lv_iinc (v := x4_5) (lv' := [(4, .int x4_5), (2, .long x2_4), (0, .ref wo), (1, .int x1)]) hx hb dX5_sumUpTo_27 hl (k := 3) rfl (by rw [ex4_5]; rfl) (by decide) rfl (fun ls hl => ?_)
    refine lv_goto (tgt := 5) hx hb dX5_sumUpTo_30 (by decide) ?_
    exact ih x2_4 x4_5 h ls (lv_sub hl [2, 3, 1, 0] rfl)
def mX5_sumUpTo (w_ofX : Nat → Int32) (w_ofY : Nat → Int32) (w_places : Nat → Int32) (w_lines : Int32) (p1 : Int32) : Option Int64 := (mlX5_sumUpTo_5 p1 w_ofX w_ofY w_places w_lines (fun (y2_33 : Int64) => (some y2_33)) kN (0 : Int64) (0 : Int32))
set_option maxHeartbeats 4000000 in
set_option maxRecDepth 100000 in
theorem bX5_sumUpTo {p : Program} {l : Launch} {e : Env} {s : State} {m : MethodId} {args : Array Value} {below : List Frame} {meth : Method} {c : Code} {Q : State → Prop} (C : kc p s m args meth c cX5_sumUpTo 5 RX5 yX5_sumUpTo.name wsX5_sumUpTo (some .long)) {D : va_G} {cI cT : ClassId} {wo w_ofX_a w_ofY_a w_places_a : Nat} (p1 : Int32) (hK : va_K D vwCl (kTy cI cT) s) (w_ofX : Nat → Int32) (w_ofY : Nat → Int32) (w_places : Nat → Int32) (w_lines : Int32) (hP : va_P D vwCl [(wo, .inr (2, [.ref w_ofX_a, .ref w_ofY_a, .ref w_places_a, .int w_lines])), (w_ofX_a, .inl (cI, 16, .inl w_ofX)), (w_ofY_a, .inl (cI, 16, .inl w_ofY)), (w_places_a, .inl (cI, 16, .inl w_places))] s.heap) (res : Int64) (hQ : ∀ (v : Int64) (pc : Nat) (ls : Array Slot), some v = some res → decode cX5_sumUpTo pc = .ok (.lreturn, 1) → W p l e rmX5_sumUpTo s m args below meth c s.heap [] 0 0 Q (F0 m pc ls [.long v])) : mX5_sumUpTo w_ofX w_ofY w_places w_lines p1 = some res → ∀ (ls : Array Slot), lv_has ls 5 [(0, .ref wo), (1, .int p1)] → W p l e rmX5_sumUpTo s m args below meth c s.heap [] 0 0 Q (F0 m 0 ls []) := by
  intro h ls hl
  have C0 := C
  obtain ⟨hx, hb, hml, hown, hts, hr, hlk, hnm⟩ := C0
  rw [mX5_sumUpTo] at h
  refine lv_lconst (v := 0) hx hb dX5_sumUpTo_0 (by decide) ?_
  refine lv_lstore_n (lv' := [(2, .long (0 : Int64)), (0, .ref wo), (1, .int p1)]) hx hb dX5_sumUpTo_1 rfl hl (by decide) rfl (fun ls hl => ?_)
  refine lv_iconst (v := 0) hx hb dX5_sumUpTo_2 (by decide) ?_
  refine lv_istore (lv' := [(4, .int (0 : Int32)), (2, .long (0 : Int64)), (0, .ref wo), (1, .int p1)]) hx hb dX5_sumUpTo_3 hl (by decide) rfl (fun ls hl => ?_)
  refine lX5_sumUpTo_5 (wo := wo) (w_ofX_a := w_ofX_a) (w_ofY_a := w_ofY_a) (w_places_a := w_places_a) C hK p1 w_ofX w_ofY w_places w_lines hP res hQ _ (fun y2_33 h ls hl => ?_) kN (0 : Int64) (0 : Int32) h ls (lv_sub hl [2, 3, 1, 0] rfl)
  refine lv_lload_n hx hb dX5_sumUpTo_33 rfl (lv_at hl 0 rfl) ?_
  exact hQ y2_33 34 ls h dX5_sumUpTo_34
set_option maxHeartbeats 4000000 in
theorem ctX5_sumUpTo (l : Launch) {D : va_G} {cI cT : ClassId} {wo w_ofX_a w_ofY_a w_places_a : Nat} {w_ofX : Nat → Int32} {w_ofY : Nat → Int32} {w_places : Nat → Int32} {w_lines : Int32} {p1 : Int32} {res : Int64} (hm : mX5_sumUpTo w_ofX w_ofY w_places w_lines p1 = some res) : Met l yX5_sumUpTo wsX5_sumUpTo rmX5_sumUpTo (va_Pc [.ref wo, .int p1] (kW D cI cT [(wo, .inr (2, [.ref w_ofX_a, .ref w_ofY_a, .ref w_places_a, .int w_lines])), (w_ofX_a, .inl (cI, 16, .inl w_ofX)), (w_ofY_a, .inl (cI, 16, .inl w_ofY)), (w_places_a, .inl (cI, 16, .inl w_places))] none (fun _ => False))) (kR (.long res)) 0 0 (fun _ => False) :=
  km (by decide) rfl (Nat.le_of_ble_eq_true rfl) (fun p e s m below meth c ls C hB hl => bX5_sumUpTo C p1 hB.1 w_ofX w_ofY w_places w_lines hB.2.1 res (fun v pc ls h hd => kr_l C h hd) hm ls hl)
theorem wm_X5_leftOut_0 : Cond.constantLong RX5 75 (-1) ∈ wsX5_leftOut := by decide +kernel
theorem kdvX5_leftOut : yX5_leftOut.cls = RX5 ∧ yX5_leftOut.cls ≠ "java/lang/invoke/MethodHandle" ∧ yX5_leftOut.cls ≠ "java/lang/invoke/VarHandle" ∧ (parseMethodDescriptor yX5_leftOut.desc).map (fun d => d.parameters.length) = some 2 := by decide +kernel
abbrev rmX5_leftOut : Room := { frames := 3, cells := 0, slots := 0, locals := 63 }
def mX5_leftOut (w_ofX : Nat → Int32) (w_ofY : Nat → Int32) (w_places : Nat → Int32) (w_lines : Int32) (p1 : Int32) (p2 : Int32) : Option Int64 := (Option.bind (mX5_product w_ofX w_ofY w_lines p1) (fun u1 => (md_let (u1 / (60 : Int32)) (fun (x3_2 : Int32) => (Option.bind (mX5_product w_ofX w_ofY w_lines p1) (fun u3 => (md_let (u3 - u3 / (60 : Int32) * (60 : Int32)) (fun (x4_4 : Int32) => (if x3_2 = 0 then (some (-1 : Int64)) else (md_jn (fun (u_37 : Unit) => (md_jn (fun (z0_49 : Int64) => (Option.bind (mX5_place w_places w_lines p1) (fun u6 => (Option.bind (mX1_atPlace z0_49 u6) (fun u7 => (some u7)))))) (fun kJ49 => (if p2 = 0 then (kJ49 (Int32.toInt64 x4_4)) else (kJ49 (Int32.toInt64 x3_2)))))) (fun kJ37 => (if p2 = (1 : Int32) then (if x4_4 = 0 then (some (-1 : Int64)) else (kJ37 ())) else (kJ37 ())))))))))))))
set_option maxHeartbeats 4000000 in
set_option maxRecDepth 100000 in
theorem bX5_leftOut {p : Program} {l : Launch} {e : Env} {s : State} {m : MethodId} {args : Array Value} {below : List Frame} {meth : Method} {c : Code} {Q : State → Prop} (C : kc p s m args meth c cX5_leftOut 5 RX5 yX5_leftOut.name wsX5_leftOut (some .long)) {D : va_G} {cI cT : ClassId} {wo w_ofX_a w_ofY_a w_places_a : Nat} (p1 : Int32) (p2 : Int32) (hK : va_K D vwCl (kTy cI cT) s) (w_ofX : Nat → Int32) (w_ofY : Nat → Int32) (w_places : Nat → Int32) (w_lines : Int32) (hP : va_P D vwCl [(wo, .inr (2, [.ref w_ofX_a, .ref w_ofY_a, .ref w_places_a, .int w_lines])), (w_ofX_a, .inl (cI, 16, .inl w_ofX)), (w_ofY_a, .inl (cI, 16, .inl w_ofY)), (w_places_a, .inl (cI, 16, .inl w_places))] s.heap) (res : Int64) (hQ : ∀ (v : Int64) (pc : Nat) (ls : Array Slot), some v = some res → decode cX5_leftOut pc = .ok (.lreturn, 1) → W p l e rmX5_leftOut s m args below meth c s.heap [] 0 0 Q (F0 m pc ls [.long v])) : mX5_leftOut w_ofX w_ofY w_places w_lines p1 p2 = some res → ∀ (ls : Array Slot), lv_has ls 5 [(0, .ref wo), (1, .int p1), (2, .int p2)] → W p l e rmX5_leftOut s m args below meth c s.heap [] 0 0 Q (F0 m 0 ls []) := by
  intro h ls hl
  have C0 := C
  obtain ⟨hx, hb, hml, hown, hts, hr, hlk, hnm⟩ := C0
  rw [mX5_leftOut] at h
  refine lv_aload_n hx hb dX5_leftOut_0 rfl (lv_at hl 0 rfl) ?_
  refine lv_iload_n hx hb dX5_leftOut_1 rfl (lv_at hl 1 rfl) ?_
  obtain ⟨u1, hu1, h⟩ := md_b h
  refine kV C (ctX5_product l  hu1) gX5_leftOut_X5_product rfl kdvX5_product ⟨rfl, rfl⟩ ⟨by decide, by decide⟩ kW_blind (va_recv hK hP (ci := 2) (q0 := 0) rfl rfl) (kW_use hK (hP.sub (ws' := [(wo, .inr (2, [.ref w_ofX_a, .ref w_ofY_a, .ref w_places_a, .int w_lines])), (w_ofX_a, .inl (cI, 16, .inl w_ofX)), (w_ofY_a, .inl (cI, 16, .inl w_ofY)), (w_places_a, .inl (cI, 16, .inl w_places))]) [0, 1, 2, 3] rfl) kL_no) rfl hl [] rfl (Nat.le_of_ble_eq_true rfl) dX5_leftOut_2 ⟨by decide, by decide⟩ ?_
  refine lv_bipush (v := 60) hx hb dX5_leftOut_5 (by decide) ?_
  refine lv_idiv hx hb dX5_leftOut_7 (by decide) ?_
  refine lv_topi (fun x3_2 ex3_2 => ?_)
  replace h := md_le ex3_2 h
  refine lv_istore_n (lv' := [(3, .int x3_2), (0, .ref wo), (1, .int p1), (2, .int p2)]) hx hb dX5_leftOut_8 rfl hl (by decide) rfl (fun ls hl => ?_)
  refine lv_aload_n hx hb dX5_leftOut_9 rfl (lv_at hl 1 rfl) ?_
  refine lv_iload_n hx hb dX5_leftOut_10 rfl (lv_at hl 2 rfl) ?_
  obtain ⟨u3, hu3, h⟩ := md_b h
  refine kV C (ctX5_product l  hu3) gX5_leftOut_X5_product rfl kdvX5_product ⟨rfl, rfl⟩ ⟨by decide, by decide⟩ kW_blind (va_recv hK hP (ci := 2) (q0 := 0) rfl rfl) (kW_use hK (hP.sub (ws' := [(wo, .inr (2, [.ref w_ofX_a, .ref w_ofY_a, .ref w_places_a, .int w_lines])), (w_ofX_a, .inl (cI, 16, .inl w_ofX)), (w_ofY_a, .inl (cI, 16, .inl w_ofY)), (w_places_a, .inl (cI, 16, .inl w_places))]) [0, 1, 2, 3] rfl) kL_no) rfl hl [] rfl (Nat.le_of_ble_eq_true rfl) dX5_leftOut_11 ⟨by decide, by decide⟩ ?_
  refine lv_bipush (v := 60) hx hb dX5_leftOut_14 (by decide) ?_
  refine lv_irem hx hb dX5_leftOut_16 (by decide) ?_
  refine lv_topi (fun x4_4 ex4_4 => ?_)
  replace h := md_le ex4_4 h
  refine lv_istore (lv' := [(4, .int x4_4), (3, .int x3_2), (0, .ref wo), (1, .int p1), (2, .int p2)]) hx hb dX5_leftOut_17 hl (by decide) rfl (fun ls hl => ?_)
  refine lv_iload_n hx hb dX5_leftOut_19 rfl (lv_at hl 1 rfl) ?_
  refine lv_if_eq (tgt := 33) hx hb dX5_leftOut_20 (by decide) (fun c5 => ?_) (fun c5 => ?_)
  · replace h := md_t c5 h
    refine lv_ldc2 hx hb hown (hts _ wm_X5_leftOut_0) dX5_leftOut_33 ?_
    exact hQ (-1 : Int64) 36 ls h dX5_leftOut_36
  replace h := md_f c5 h
  refine lv_iload_n hx hb dX5_leftOut_23 rfl (lv_at hl 4 rfl) ?_
  refine lv_iconst (v := 1) hx hb dX5_leftOut_24 (by decide) ?_
  obtain ⟨kJ37, ekJ37, h⟩ := md_jo h
  have KJ37 : ∀ (u_37 : Unit), kJ37 u_37 = some res → ∀ (ls : Array Slot), lv_has ls 5 [(0, .ref wo), (1, .int p1), (2, .int p2), (3, .int x3_2), (4, .int x4_4)] → W p l e rmX5_leftOut s m args below meth c s.heap [] 0 0 Q (F0 m 37 ls []) := by
    intro u_37 h ls hl
    rw [ekJ37] at h
    refine lv_iload_n hx hb dX5_leftOut_37 rfl (lv_at hl 2 rfl) ?_
    obtain ⟨kJ49, ekJ49, h⟩ := md_jo h
    have KJ49 : ∀ (z0_49 : Int64), kJ49 z0_49 = some res → ∀ (ls : Array Slot), lv_has ls 5 [(0, .ref wo), (1, .int p1)] → W p l e rmX5_leftOut s m args below meth c s.heap [] 0 0 Q (F0 m 49 ls [.long z0_49]) := by
      intro z0_49 h ls hl
      rw [ekJ49] at h
      refine lv_aload_n hx hb dX5_leftOut_49 rfl (lv_at hl 0 rfl) ?_
      refine lv_iload_n hx hb dX5_leftOut_50 rfl (lv_at hl 1 rfl) ?_
      obtain ⟨u6, hu6, h⟩ := md_b h
      refine kV C (ctX5_place l  hu6) gX5_leftOut_X5_place rfl kdvX5_place ⟨rfl, rfl⟩ ⟨by decide, by decide⟩ kW_blind (va_recv hK hP (ci := 2) (q0 := 0) rfl rfl) (kW_use hK (hP.sub (ws' := [(wo, .inr (2, [.ref w_ofX_a, .ref w_ofY_a, .ref w_places_a, .int w_lines])), (w_ofX_a, .inl (cI, 16, .inl w_ofX)), (w_ofY_a, .inl (cI, 16, .inl w_ofY)), (w_places_a, .inl (cI, 16, .inl w_places))]) [0, 1, 2, 3] rfl) kL_no) rfl hl [.long z0_49] rfl (Nat.le_of_ble_eq_true rfl) dX5_leftOut_51 ⟨by decide, by decide⟩ ?_
      obtain ⟨u7, hu7, h⟩ := md_b h
      refine kS C (ctX1_atPlace l  hu7) gX5_leftOut_X1_atPlace rfl kdX1_atPlace ⟨rfl, rfl⟩ ⟨by decide, by decide⟩ kT_blind (fun _ _ _ => trivial) rfl hl [] rfl (Nat.le_of_ble_eq_true rfl) dX5_leftOut_54 ⟨by decide, by decide⟩ ?_
      exact hQ u7 57 ls h dX5_leftOut_57
    clear ekJ49
    refine lv_if_ne (tgt := 47) hx hb dX5_leftOut_38 (by decide) (fun c8 => ?_) (fun c8 => ?_)
    · replace h := md_f c8 h
      refine lv_iload_n hx hb dX5_leftOut_47 rfl (lv_at hl 3 rfl) ?_
      refine lv_i2l hx hb dX5_leftOut_48 rfl ?_
      exact KJ49 (Int32.toInt64 x3_2) h ls (lv_sub hl [0, 1] rfl)
    replace h := md_t c8 h
    refine lv_iload hx hb dX5_leftOut_41 (lv_at hl 4 rfl) ?_
    refine lv_i2l hx hb dX5_leftOut_43 rfl ?_
    refine lv_goto (tgt := 49) hx hb dX5_leftOut_44 (by decide) ?_
    exact KJ49 (Int32.toInt64 x4_4) h ls (lv_sub hl [0, 1] rfl)
  clear ekJ37
  refine lv_icmp_ne (tgt := 37) hx hb dX5_leftOut_25 (by decide) (fun c9 => ?_) (fun c9 => ?_)
  · replace h := md_f c9 h
    exact KJ37 () h ls (lv_sub hl [2, 3, 4, 1, 0] rfl)
  replace h := md_t c9 h
  refine lv_iload hx hb dX5_leftOut_28 (lv_at hl 0 rfl) ?_
  refine lv_if_ne (tgt := 37) hx hb dX5_leftOut_30 (by decide) (fun c10 => ?_) (fun c10 => ?_)
  · replace h := md_f c10 h
    exact KJ37 () h ls (lv_sub hl [2, 3, 4, 1, 0] rfl)
  replace h := md_t c10 h
  refine lv_ldc2 hx hb hown (hts _ wm_X5_leftOut_0) dX5_leftOut_33 ?_
  exact hQ (-1 : Int64) 36 ls h dX5_leftOut_36
set_option maxHeartbeats 4000000 in
theorem ctX5_leftOut (l : Launch) {D : va_G} {cI cT : ClassId} {wo w_ofX_a w_ofY_a w_places_a : Nat} {w_ofX : Nat → Int32} {w_ofY : Nat → Int32} {w_places : Nat → Int32} {w_lines : Int32} {p1 : Int32} {p2 : Int32} {res : Int64} (hm : mX5_leftOut w_ofX w_ofY w_places w_lines p1 p2 = some res) : Met l yX5_leftOut wsX5_leftOut rmX5_leftOut (va_Pc [.ref wo, .int p1, .int p2] (kW D cI cT [(wo, .inr (2, [.ref w_ofX_a, .ref w_ofY_a, .ref w_places_a, .int w_lines])), (w_ofX_a, .inl (cI, 16, .inl w_ofX)), (w_ofY_a, .inl (cI, 16, .inl w_ofY)), (w_places_a, .inl (cI, 16, .inl w_places))] none (fun _ => False))) (kR (.long res)) 0 0 (fun _ => False) :=
  km (by decide) rfl (Nat.le_of_ble_eq_true rfl) (fun p e s m below meth c ls C hB hl => bX5_leftOut C p1 p2 hB.1 w_ofX w_ofY w_places w_lines hB.2.1 res (fun v pc ls h hd => kr_l C h hd) hm ls hl)
theorem wm_X5_placeLost_0 : Cond.constantLong RX5 75 (-1) ∈ wsX5_placeLost := by decide +kernel
theorem kdvX5_placeLost : yX5_placeLost.cls = RX5 ∧ yX5_placeLost.cls ≠ "java/lang/invoke/MethodHandle" ∧ yX5_placeLost.cls ≠ "java/lang/invoke/VarHandle" ∧ (parseMethodDescriptor yX5_placeLost.desc).map (fun d => d.parameters.length) = some 2 := by decide +kernel
abbrev rmX5_placeLost : Room := { frames := 3, cells := 0, slots := 0, locals := 63 }
def mX5_placeLost (w_ofX : Nat → Int32) (w_ofY : Nat → Int32) (w_places : Nat → Int32) (w_lines : Int32) (p1 : Int32) (p2 : Int32) : Option Int64 := (if p2 = 0 then (Option.bind (mX5_place w_places w_lines p1) (fun u2 => (if u2 ≤ 0 then (some (-1 : Int64)) else (Option.bind (mX5_product w_ofX w_ofY w_lines p1) (fun u4 => (Option.bind (mX5_place w_places w_lines p1) (fun u5 => (Option.bind (mX1_atPlace (Int32.toInt64 u4) (u5 - (1 : Int32))) (fun u6 => (some u6)))))))))) else (some (-1 : Int64)))
set_option maxHeartbeats 4000000 in
set_option maxRecDepth 100000 in
theorem bX5_placeLost {p : Program} {l : Launch} {e : Env} {s : State} {m : MethodId} {args : Array Value} {below : List Frame} {meth : Method} {c : Code} {Q : State → Prop} (C : kc p s m args meth c cX5_placeLost 3 RX5 yX5_placeLost.name wsX5_placeLost (some .long)) {D : va_G} {cI cT : ClassId} {wo w_ofX_a w_ofY_a w_places_a : Nat} (p1 : Int32) (p2 : Int32) (hK : va_K D vwCl (kTy cI cT) s) (w_ofX : Nat → Int32) (w_ofY : Nat → Int32) (w_places : Nat → Int32) (w_lines : Int32) (hP : va_P D vwCl [(wo, .inr (2, [.ref w_ofX_a, .ref w_ofY_a, .ref w_places_a, .int w_lines])), (w_ofX_a, .inl (cI, 16, .inl w_ofX)), (w_ofY_a, .inl (cI, 16, .inl w_ofY)), (w_places_a, .inl (cI, 16, .inl w_places))] s.heap) (res : Int64) (hQ : ∀ (v : Int64) (pc : Nat) (ls : Array Slot), some v = some res → decode cX5_placeLost pc = .ok (.lreturn, 1) → W p l e rmX5_placeLost s m args below meth c s.heap [] 0 0 Q (F0 m pc ls [.long v])) : mX5_placeLost w_ofX w_ofY w_places w_lines p1 p2 = some res → ∀ (ls : Array Slot), lv_has ls 3 [(0, .ref wo), (1, .int p1), (2, .int p2)] → W p l e rmX5_placeLost s m args below meth c s.heap [] 0 0 Q (F0 m 0 ls []) := by
  intro h ls hl
  have C0 := C
  obtain ⟨hx, hb, hml, hown, hts, hr, hlk, hnm⟩ := C0
  rw [mX5_placeLost] at h
  refine lv_iload_n hx hb dX5_placeLost_0 rfl (lv_at hl 2 rfl) ?_
  refine lv_if_ne (tgt := 31) hx hb dX5_placeLost_1 (by decide) (fun c1 => ?_) (fun c1 => ?_)
  · replace h := md_f c1 h
    refine lv_ldc2 hx hb hown (hts _ wm_X5_placeLost_0) dX5_placeLost_31 ?_
    exact hQ (-1 : Int64) 34 ls h dX5_placeLost_34
  replace h := md_t c1 h
  refine lv_aload_n hx hb dX5_placeLost_4 rfl (lv_at hl 0 rfl) ?_
  refine lv_iload_n hx hb dX5_placeLost_5 rfl (lv_at hl 1 rfl) ?_
  obtain ⟨u2, hu2, h⟩ := md_b h
  refine kV C (ctX5_place l  hu2) gX5_placeLost_X5_place rfl kdvX5_place ⟨rfl, rfl⟩ ⟨by decide, by decide⟩ kW_blind (va_recv hK hP (ci := 2) (q0 := 0) rfl rfl) (kW_use hK (hP.sub (ws' := [(wo, .inr (2, [.ref w_ofX_a, .ref w_ofY_a, .ref w_places_a, .int w_lines])), (w_ofX_a, .inl (cI, 16, .inl w_ofX)), (w_ofY_a, .inl (cI, 16, .inl w_ofY)), (w_places_a, .inl (cI, 16, .inl w_places))]) [0, 1, 2, 3] rfl) kL_no) rfl hl [] rfl (Nat.le_of_ble_eq_true rfl) dX5_placeLost_6 ⟨by decide, by decide⟩ ?_
  refine lv_if_le (tgt := 31) hx hb dX5_placeLost_9 (by decide) (fun c3 => ?_) (fun c3 => ?_)
  · replace h := md_t c3 h
    refine lv_ldc2 hx hb hown (hts _ wm_X5_placeLost_0) dX5_placeLost_31 ?_
    exact hQ (-1 : Int64) 34 ls h dX5_placeLost_34
  replace h := md_f c3 h
  refine lv_aload_n hx hb dX5_placeLost_12 rfl (lv_at hl 0 rfl) ?_
  refine lv_iload_n hx hb dX5_placeLost_13 rfl (lv_at hl 1 rfl) ?_
  obtain ⟨u4, hu4, h⟩ := md_b h
  refine kV C (ctX5_product l  hu4) gX5_placeLost_X5_product rfl kdvX5_product ⟨rfl, rfl⟩ ⟨by decide, by decide⟩ kW_blind (va_recv hK hP (ci := 2) (q0 := 0) rfl rfl) (kW_use hK (hP.sub (ws' := [(wo, .inr (2, [.ref w_ofX_a, .ref w_ofY_a, .ref w_places_a, .int w_lines])), (w_ofX_a, .inl (cI, 16, .inl w_ofX)), (w_ofY_a, .inl (cI, 16, .inl w_ofY)), (w_places_a, .inl (cI, 16, .inl w_places))]) [0, 1, 2, 3] rfl) kL_no) rfl hl [] rfl (Nat.le_of_ble_eq_true rfl) dX5_placeLost_14 ⟨by decide, by decide⟩ ?_
  refine lv_i2l hx hb dX5_placeLost_17 rfl ?_
  refine lv_aload_n hx hb dX5_placeLost_18 rfl (lv_at hl 0 rfl) ?_
  refine lv_iload_n hx hb dX5_placeLost_19 rfl (lv_at hl 1 rfl) ?_
  obtain ⟨u5, hu5, h⟩ := md_b h
  refine kV C (ctX5_place l  hu5) gX5_placeLost_X5_place rfl kdvX5_place ⟨rfl, rfl⟩ ⟨by decide, by decide⟩ kW_blind (va_recv hK hP (ci := 2) (q0 := 0) rfl rfl) (kW_use hK (hP.sub (ws' := [(wo, .inr (2, [.ref w_ofX_a, .ref w_ofY_a, .ref w_places_a, .int w_lines])), (w_ofX_a, .inl (cI, 16, .inl w_ofX)), (w_ofY_a, .inl (cI, 16, .inl w_ofY)), (w_places_a, .inl (cI, 16, .inl w_places))]) [0, 1, 2, 3] rfl) kL_no) rfl hl [.long (Int32.toInt64 u4)] rfl (Nat.le_of_ble_eq_true rfl) dX5_placeLost_20 ⟨by decide, by decide⟩ ?_
  refine lv_iconst (v := 1) hx hb dX5_placeLost_23 (by decide) ?_
  refine lv_isub hx hb dX5_placeLost_24 ?_
  obtain ⟨u6, hu6, h⟩ := md_b h
  refine kS C (ctX1_atPlace l  hu6) gX5_placeLost_X1_atPlace rfl kdX1_atPlace ⟨rfl, rfl⟩ ⟨by decide, by decide⟩ kT_blind (fun _ _ _ => trivial) rfl hl [] rfl (Nat.le_of_ble_eq_true rfl) dX5_placeLost_25 ⟨by decide, by decide⟩ ?_
  refine lv_goto (tgt := 34) hx hb dX5_placeLost_28 (by decide) ?_
  exact hQ u6 34 ls h dX5_placeLost_34
set_option maxHeartbeats 4000000 in
theorem ctX5_placeLost (l : Launch) {D : va_G} {cI cT : ClassId} {wo w_ofX_a w_ofY_a w_places_a : Nat} {w_ofX : Nat → Int32} {w_ofY : Nat → Int32} {w_places : Nat → Int32} {w_lines : Int32} {p1 : Int32} {p2 : Int32} {res : Int64} (hm : mX5_placeLost w_ofX w_ofY w_places w_lines p1 p2 = some res) : Met l yX5_placeLost wsX5_placeLost rmX5_placeLost (va_Pc [.ref wo, .int p1, .int p2] (kW D cI cT [(wo, .inr (2, [.ref w_ofX_a, .ref w_ofY_a, .ref w_places_a, .int w_lines])), (w_ofX_a, .inl (cI, 16, .inl w_ofX)), (w_ofY_a, .inl (cI, 16, .inl w_ofY)), (w_places_a, .inl (cI, 16, .inl w_places))] none (fun _ => False))) (kR (.long res)) 0 0 (fun _ => False) :=
  km (by decide) rfl (Nat.le_of_ble_eq_true rfl) (fun p e s m below meth c ls C hB hl => bX5_placeLost C p1 p2 hB.1 w_ofX w_ofY w_places w_lines hB.2.1 res (fun v pc ls h hd => kr_l C h hd) hm ls hl)
theorem wm_X5_rowBeside_0 : Cond.constantLong RX5 75 (-1) ∈ wsX5_rowBeside := by decide +kernel
theorem kdvX5_rowBeside : yX5_rowBeside.cls = RX5 ∧ yX5_rowBeside.cls ≠ "java/lang/invoke/MethodHandle" ∧ yX5_rowBeside.cls ≠ "java/lang/invoke/VarHandle" ∧ (parseMethodDescriptor yX5_rowBeside.desc).map (fun d => d.parameters.length) = some 2 := by decide +kernel
abbrev rmX5_rowBeside : Room := { frames := 2, cells := 0, slots := 0, locals := 42 }
def mX5_rowBeside (w_ofX : Nat → Int32) (w_ofY : Nat → Int32) (w_places : Nat → Int32) (w_lines : Int32) (p1 : Int32) (p2 : Int32) : Option Int64 := (md_jn (fun (z0_21 : Int32) => (if z0_21 < (1 : Int32) then (some (-1 : Int64)) else (if z0_21 < (60 : Int32) then (Option.bind (mX5_digitOfX w_ofX w_lines p1) (fun u3 => (Option.bind (mX5_place w_places w_lines p1) (fun u4 => (Option.bind (mX1_atPlace ((Int32.toInt64 u3) * (Int32.toInt64 z0_21)) u4) (fun u5 => (some u5))))))) else (some (-1 : Int64))))) (fun kJ21 => (if p2 = 0 then (Option.bind (mX5_digitOfY w_ofY w_lines p1) (fun u8 => (kJ21 (u8 - (1 : Int32))))) else (Option.bind (mX5_digitOfY w_ofY w_lines p1) (fun u7 => (kJ21 (u7 + (1 : Int32))))))))
set_option maxHeartbeats 4000000 in
set_option maxRecDepth 100000 in
theorem bX5_rowBeside {p : Program} {l : Launch} {e : Env} {s : State} {m : MethodId} {args : Array Value} {below : List Frame} {meth : Method} {c : Code} {Q : State → Prop} (C : kc p s m args meth c cX5_rowBeside 4 RX5 yX5_rowBeside.name wsX5_rowBeside (some .long)) {D : va_G} {cI cT : ClassId} {wo w_ofX_a w_ofY_a w_places_a : Nat} (p1 : Int32) (p2 : Int32) (hK : va_K D vwCl (kTy cI cT) s) (w_ofX : Nat → Int32) (w_ofY : Nat → Int32) (w_places : Nat → Int32) (w_lines : Int32) (hP : va_P D vwCl [(wo, .inr (2, [.ref w_ofX_a, .ref w_ofY_a, .ref w_places_a, .int w_lines])), (w_ofX_a, .inl (cI, 16, .inl w_ofX)), (w_ofY_a, .inl (cI, 16, .inl w_ofY)), (w_places_a, .inl (cI, 16, .inl w_places))] s.heap) (res : Int64) (hQ : ∀ (v : Int64) (pc : Nat) (ls : Array Slot), some v = some res → decode cX5_rowBeside pc = .ok (.lreturn, 1) → W p l e rmX5_rowBeside s m args below meth c s.heap [] 0 0 Q (F0 m pc ls [.long v])) : mX5_rowBeside w_ofX w_ofY w_places w_lines p1 p2 = some res → ∀ (ls : Array Slot), lv_has ls 4 [(0, .ref wo), (1, .int p1), (2, .int p2)] → W p l e rmX5_rowBeside s m args below meth c s.heap [] 0 0 Q (F0 m 0 ls []) := by
  intro h ls hl
  have C0 := C
  obtain ⟨hx, hb, hml, hown, hts, hr, hlk, hnm⟩ := C0
  rw [mX5_rowBeside] at h
  refine lv_iload_n hx hb dX5_rowBeside_0 rfl (lv_at hl 2 rfl) ?_
  obtain ⟨kJ21, ekJ21, h⟩ := md_jo h
  have KJ21 : ∀ (z0_21 : Int32), kJ21 z0_21 = some res → ∀ (ls : Array Slot), lv_has ls 4 [(0, .ref wo), (1, .int p1)] → W p l e rmX5_rowBeside s m args below meth c s.heap [] 0 0 Q (F0 m 21 ls [.int z0_21]) := by
    intro z0_21 h ls hl
    rw [ekJ21] at h
    refine lv_istore_n (lv' := [(3, .int z0_21), (0, .ref wo), (1, .int p1)]) hx hb dX5_rowBeside_21 rfl hl (by decide) rfl (fun ls hl => ?_)
    refine lv_iload_n hx hb dX5_rowBeside_22 rfl (lv_at hl 0 rfl) ?_
    refine lv_iconst (v := 1) hx hb dX5_rowBeside_23 (by decide) ?_
    refine lv_icmp_lt (tgt := 33) hx hb dX5_rowBeside_24 (by decide) (fun c1 => ?_) (fun c1 => ?_)
    · replace h := md_t c1 h
      refine lv_ldc2 hx hb hown (hts _ wm_X5_rowBeside_0) dX5_rowBeside_33 ?_
      exact hQ (-1 : Int64) 36 ls h dX5_rowBeside_36
    replace h := md_f c1 h
    refine lv_iload_n hx hb dX5_rowBeside_27 rfl (lv_at hl 0 rfl) ?_
    refine lv_bipush (v := 60) hx hb dX5_rowBeside_28 (by decide) ?_
    refine lv_icmp_lt (tgt := 37) hx hb dX5_rowBeside_30 (by decide) (fun c2 => ?_) (fun c2 => ?_)
    · replace h := md_t c2 h
      refine lv_aload_n hx hb dX5_rowBeside_37 rfl (lv_at hl 1 rfl) ?_
      refine lv_iload_n hx hb dX5_rowBeside_38 rfl (lv_at hl 2 rfl) ?_
      obtain ⟨u3, hu3, h⟩ := md_b h
      refine kV C (ctX5_digitOfX l  hu3) gX5_rowBeside_X5_digitOfX rfl kdvX5_digitOfX ⟨rfl, rfl⟩ ⟨by decide, by decide⟩ kW_blind (va_recv hK hP (ci := 2) (q0 := 0) rfl rfl) (kW_use hK (hP.sub (ws' := [(wo, .inr (2, [.ref w_ofX_a, .ref w_ofY_a, .ref w_places_a, .int w_lines])), (w_ofX_a, .inl (cI, 16, .inl w_ofX)), (w_ofY_a, .inl (cI, 16, .inl w_ofY)), (w_places_a, .inl (cI, 16, .inl w_places))]) [0, 1, 2, 3] rfl) kL_no) rfl hl [] rfl (Nat.le_of_ble_eq_true rfl) dX5_rowBeside_39 ⟨by decide, by decide⟩ ?_
      refine lv_i2l hx hb dX5_rowBeside_42 rfl ?_
      refine lv_iload_n hx hb dX5_rowBeside_43 rfl (lv_at hl 0 rfl) ?_
      refine lv_i2l hx hb dX5_rowBeside_44 rfl ?_
      refine lv_lmul hx hb dX5_rowBeside_45 ?_
      refine lv_aload_n hx hb dX5_rowBeside_46 rfl (lv_at hl 1 rfl) ?_
      refine lv_iload_n hx hb dX5_rowBeside_47 rfl (lv_at hl 2 rfl) ?_
      obtain ⟨u4, hu4, h⟩ := md_b h
      refine kV C (ctX5_place l  hu4) gX5_rowBeside_X5_place rfl kdvX5_place ⟨rfl, rfl⟩ ⟨by decide, by decide⟩ kW_blind (va_recv hK hP (ci := 2) (q0 := 0) rfl rfl) (kW_use hK (hP.sub (ws' := [(wo, .inr (2, [.ref w_ofX_a, .ref w_ofY_a, .ref w_places_a, .int w_lines])), (w_ofX_a, .inl (cI, 16, .inl w_ofX)), (w_ofY_a, .inl (cI, 16, .inl w_ofY)), (w_places_a, .inl (cI, 16, .inl w_places))]) [0, 1, 2, 3] rfl) kL_no) rfl hl [.long ((Int32.toInt64 u3) * (Int32.toInt64 z0_21))] rfl (Nat.le_of_ble_eq_true rfl) dX5_rowBeside_48 ⟨by decide, by decide⟩ ?_
      obtain ⟨u5, hu5, h⟩ := md_b h
      refine kS C (ctX1_atPlace l  hu5) gX5_rowBeside_X1_atPlace rfl kdX1_atPlace ⟨rfl, rfl⟩ ⟨by decide, by decide⟩ kT_blind (fun _ _ _ => trivial) rfl hl [] rfl (Nat.le_of_ble_eq_true rfl) dX5_rowBeside_51 ⟨by decide, by decide⟩ ?_
      exact hQ u5 54 ls h dX5_rowBeside_54
    replace h := md_f c2 h
    refine lv_ldc2 hx hb hown (hts _ wm_X5_rowBeside_0) dX5_rowBeside_33 ?_
    exact hQ (-1 : Int64) 36 ls h dX5_rowBeside_36
  clear ekJ21
  refine lv_if_ne (tgt := 14) hx hb dX5_rowBeside_1 (by decide) (fun c6 => ?_) (fun c6 => ?_)
  · replace h := md_f c6 h
    refine lv_aload_n hx hb dX5_rowBeside_14 rfl (lv_at hl 0 rfl) ?_
    refine lv_iload_n hx hb dX5_rowBeside_15 rfl (lv_at hl 1 rfl) ?_
    obtain ⟨u7, hu7, h⟩ := md_b h
    refine kV C (ctX5_digitOfY l  hu7) gX5_rowBeside_X5_digitOfY rfl kdvX5_digitOfY ⟨rfl, rfl⟩ ⟨by decide, by decide⟩ kW_blind (va_recv hK hP (ci := 2) (q0 := 0) rfl rfl) (kW_use hK (hP.sub (ws' := [(wo, .inr (2, [.ref w_ofX_a, .ref w_ofY_a, .ref w_places_a, .int w_lines])), (w_ofX_a, .inl (cI, 16, .inl w_ofX)), (w_ofY_a, .inl (cI, 16, .inl w_ofY)), (w_places_a, .inl (cI, 16, .inl w_places))]) [0, 1, 2, 3] rfl) kL_no) rfl hl [] rfl (Nat.le_of_ble_eq_true rfl) dX5_rowBeside_16 ⟨by decide, by decide⟩ ?_
    refine lv_iconst (v := 1) hx hb dX5_rowBeside_19 (by decide) ?_
    refine lv_iadd hx hb dX5_rowBeside_20 ?_
    exact KJ21 (u7 + (1 : Int32)) h ls (lv_sub hl [0, 1] rfl)
  replace h := md_t c6 h
  refine lv_aload_n hx hb dX5_rowBeside_4 rfl (lv_at hl 0 rfl) ?_
  refine lv_iload_n hx hb dX5_rowBeside_5 rfl (lv_at hl 1 rfl) ?_
  obtain ⟨u8, hu8, h⟩ := md_b h
  refine kV C (ctX5_digitOfY l  hu8) gX5_rowBeside_X5_digitOfY rfl kdvX5_digitOfY ⟨rfl, rfl⟩ ⟨by decide, by decide⟩ kW_blind (va_recv hK hP (ci := 2) (q0 := 0) rfl rfl) (kW_use hK (hP.sub (ws' := [(wo, .inr (2, [.ref w_ofX_a, .ref w_ofY_a, .ref w_places_a, .int w_lines])), (w_ofX_a, .inl (cI, 16, .inl w_ofX)), (w_ofY_a, .inl (cI, 16, .inl w_ofY)), (w_places_a, .inl (cI, 16, .inl w_places))]) [0, 1, 2, 3] rfl) kL_no) rfl hl [] rfl (Nat.le_of_ble_eq_true rfl) dX5_rowBeside_6 ⟨by decide, by decide⟩ ?_
  refine lv_iconst (v := 1) hx hb dX5_rowBeside_9 (by decide) ?_
  refine lv_isub hx hb dX5_rowBeside_10 ?_
  refine lv_goto (tgt := 21) hx hb dX5_rowBeside_11 (by decide) ?_
  exact KJ21 (u8 - (1 : Int32)) h ls (lv_sub hl [0, 1] rfl)
set_option maxHeartbeats 4000000 in
theorem ctX5_rowBeside (l : Launch) {D : va_G} {cI cT : ClassId} {wo w_ofX_a w_ofY_a w_places_a : Nat} {w_ofX : Nat → Int32} {w_ofY : Nat → Int32} {w_places : Nat → Int32} {w_lines : Int32} {p1 : Int32} {p2 : Int32} {res : Int64} (hm : mX5_rowBeside w_ofX w_ofY w_places w_lines p1 p2 = some res) : Met l yX5_rowBeside wsX5_rowBeside rmX5_rowBeside (va_Pc [.ref wo, .int p1, .int p2] (kW D cI cT [(wo, .inr (2, [.ref w_ofX_a, .ref w_ofY_a, .ref w_places_a, .int w_lines])), (w_ofX_a, .inl (cI, 16, .inl w_ofX)), (w_ofY_a, .inl (cI, 16, .inl w_ofY)), (w_places_a, .inl (cI, 16, .inl w_places))] none (fun _ => False))) (kR (.long res)) 0 0 (fun _ => False) :=
  km (by decide) rfl (Nat.le_of_ble_eq_true rfl) (fun p e s m below meth c ls C hB hl => bX5_rowBeside C p1 p2 hB.1 w_ofX w_ofY w_places w_lines hB.2.1 res (fun v pc ls h hd => kr_l C h hd) hm ls hl)
theorem wm_X5_writtenTwice_0 : Cond.constantLong RX5 75 (-1) ∈ wsX5_writtenTwice := by decide +kernel
theorem kdvX5_writtenTwice : yX5_writtenTwice.cls = RX5 ∧ yX5_writtenTwice.cls ≠ "java/lang/invoke/MethodHandle" ∧ yX5_writtenTwice.cls ≠ "java/lang/invoke/VarHandle" ∧ (parseMethodDescriptor yX5_writtenTwice.desc).map (fun d => d.parameters.length) = some 2 := by decide +kernel
abbrev rmX5_writtenTwice : Room := { frames := 3, cells := 0, slots := 0, locals := 63 }
def mX5_writtenTwice (w_ofX : Nat → Int32) (w_ofY : Nat → Int32) (w_places : Nat → Int32) (w_lines : Int32) (p1 : Int32) (p2 : Int32) : Option Int64 := (Option.bind (mX5_product w_ofX w_ofY w_lines p1) (fun u1 => (md_let (u1 / (60 : Int32)) (fun (x3_2 : Int32) => (Option.bind (mX5_product w_ofX w_ofY w_lines p1) (fun u3 => (md_let (u3 - u3 / (60 : Int32) * (60 : Int32)) (fun (x4_4 : Int32) => (md_jn (fun (z0_29 : Int32) => (if z0_29 = 0 then (some (-1 : Int64)) else (Option.bind (mX5_place w_places w_lines p1) (fun u6 => (Option.bind (mX1_atPlace (Int32.toInt64 ((((x3_2 * (60 : Int32)) + z0_29) * (60 : Int32)) + x4_4)) u6) (fun u7 => (some u7))))))) (fun kJ29 => (if p2 = 0 then (kJ29 x3_2) else (kJ29 x4_4))))))))))))
set_option maxHeartbeats 4000000 in
set_option maxRecDepth 100000 in
theorem bX5_writtenTwice {p : Program} {l : Launch} {e : Env} {s : State} {m : MethodId} {args : Array Value} {below : List Frame} {meth : Method} {c : Code} {Q : State → Prop} (C : kc p s m args meth c cX5_writtenTwice 6 RX5 yX5_writtenTwice.name wsX5_writtenTwice (some .long)) {D : va_G} {cI cT : ClassId} {wo w_ofX_a w_ofY_a w_places_a : Nat} (p1 : Int32) (p2 : Int32) (hK : va_K D vwCl (kTy cI cT) s) (w_ofX : Nat → Int32) (w_ofY : Nat → Int32) (w_places : Nat → Int32) (w_lines : Int32) (hP : va_P D vwCl [(wo, .inr (2, [.ref w_ofX_a, .ref w_ofY_a, .ref w_places_a, .int w_lines])), (w_ofX_a, .inl (cI, 16, .inl w_ofX)), (w_ofY_a, .inl (cI, 16, .inl w_ofY)), (w_places_a, .inl (cI, 16, .inl w_places))] s.heap) (res : Int64) (hQ : ∀ (v : Int64) (pc : Nat) (ls : Array Slot), some v = some res → decode cX5_writtenTwice pc = .ok (.lreturn, 1) → W p l e rmX5_writtenTwice s m args below meth c s.heap [] 0 0 Q (F0 m pc ls [.long v])) : mX5_writtenTwice w_ofX w_ofY w_places w_lines p1 p2 = some res → ∀ (ls : Array Slot), lv_has ls 6 [(0, .ref wo), (1, .int p1), (2, .int p2)] → W p l e rmX5_writtenTwice s m args below meth c s.heap [] 0 0 Q (F0 m 0 ls []) := by
  intro h ls hl
  have C0 := C
  obtain ⟨hx, hb, hml, hown, hts, hr, hlk, hnm⟩ := C0
  rw [mX5_writtenTwice] at h
  refine lv_aload_n hx hb dX5_writtenTwice_0 rfl (lv_at hl 0 rfl) ?_
  refine lv_iload_n hx hb dX5_writtenTwice_1 rfl (lv_at hl 1 rfl) ?_
  obtain ⟨u1, hu1, h⟩ := md_b h
  refine kV C (ctX5_product l  hu1) gX5_writtenTwice_X5_product rfl kdvX5_product ⟨rfl, rfl⟩ ⟨by decide, by decide⟩ kW_blind (va_recv hK hP (ci := 2) (q0 := 0) rfl rfl) (kW_use hK (hP.sub (ws' := [(wo, .inr (2, [.ref w_ofX_a, .ref w_ofY_a, .ref w_places_a, .int w_lines])), (w_ofX_a, .inl (cI, 16, .inl w_ofX)), (w_ofY_a, .inl (cI, 16, .inl w_ofY)), (w_places_a, .inl (cI, 16, .inl w_places))]) [0, 1, 2, 3] rfl) kL_no) rfl hl [] rfl (Nat.le_of_ble_eq_true rfl) dX5_writtenTwice_2 ⟨by decide, by decide⟩ ?_
  refine lv_bipush (v := 60) hx hb dX5_writtenTwice_5 (by decide) ?_
  refine lv_idiv hx hb dX5_writtenTwice_7 (by decide) ?_
  refine lv_topi (fun x3_2 ex3_2 => ?_)
  replace h := md_le ex3_2 h
  refine lv_istore_n (lv' := [(3, .int x3_2), (0, .ref wo), (1, .int p1), (2, .int p2)]) hx hb dX5_writtenTwice_8 rfl hl (by decide) rfl (fun ls hl => ?_)
  refine lv_aload_n hx hb dX5_writtenTwice_9 rfl (lv_at hl 1 rfl) ?_
  refine lv_iload_n hx hb dX5_writtenTwice_10 rfl (lv_at hl 2 rfl) ?_
  obtain ⟨u3, hu3, h⟩ := md_b h
  refine kV C (ctX5_product l  hu3) gX5_writtenTwice_X5_product rfl kdvX5_product ⟨rfl, rfl⟩ ⟨by decide, by decide⟩ kW_blind (va_recv hK hP (ci := 2) (q0 := 0) rfl rfl) (kW_use hK (hP.sub (ws' := [(wo, .inr (2, [.ref w_ofX_a, .ref w_ofY_a, .ref w_places_a, .int w_lines])), (w_ofX_a, .inl (cI, 16, .inl w_ofX)), (w_ofY_a, .inl (cI, 16, .inl w_ofY)), (w_places_a, .inl (cI, 16, .inl w_places))]) [0, 1, 2, 3] rfl) kL_no) rfl hl [] rfl (Nat.le_of_ble_eq_true rfl) dX5_writtenTwice_11 ⟨by decide, by decide⟩ ?_
  refine lv_bipush (v := 60) hx hb dX5_writtenTwice_14 (by decide) ?_
  refine lv_irem hx hb dX5_writtenTwice_16 (by decide) ?_
  refine lv_topi (fun x4_4 ex4_4 => ?_)
  replace h := md_le ex4_4 h
  refine lv_istore (lv' := [(4, .int x4_4), (3, .int x3_2), (0, .ref wo), (1, .int p1), (2, .int p2)]) hx hb dX5_writtenTwice_17 hl (by decide) rfl (fun ls hl => ?_)
  refine lv_iload_n hx hb dX5_writtenTwice_19 rfl (lv_at hl 4 rfl) ?_
  obtain ⟨kJ29, ekJ29, h⟩ := md_jo h
  have KJ29 : ∀ (z0_29 : Int32), kJ29 z0_29 = some res → ∀ (ls : Array Slot), lv_has ls 6 [(0, .ref wo), (1, .int p1), (3, .int x3_2), (4, .int x4_4)] → W p l e rmX5_writtenTwice s m args below meth c s.heap [] 0 0 Q (F0 m 29 ls [.int z0_29]) := by
    intro z0_29 h ls hl
    rw [ekJ29] at h
    refine lv_istore (lv' := [(5, .int z0_29), (0, .ref wo), (1, .int p1), (3, .int x3_2), (4, .int x4_4)]) hx hb dX5_writtenTwice_29 hl (by decide) rfl (fun ls hl => ?_)
    refine lv_iload hx hb dX5_writtenTwice_31 (lv_at hl 0 rfl) ?_
    refine lv_if_ne (tgt := 40) hx hb dX5_writtenTwice_33 (by decide) (fun c5 => ?_) (fun c5 => ?_)
    · replace h := md_f c5 h
      refine lv_iload_n hx hb dX5_writtenTwice_40 rfl (lv_at hl 3 rfl) ?_
      refine lv_bipush (v := 60) hx hb dX5_writtenTwice_41 (by decide) ?_
      refine lv_imul hx hb dX5_writtenTwice_43 ?_
      refine lv_iload hx hb dX5_writtenTwice_44 (lv_at hl 0 rfl) ?_
      refine lv_iadd hx hb dX5_writtenTwice_46 ?_
      refine lv_bipush (v := 60) hx hb dX5_writtenTwice_47 (by decide) ?_
      refine lv_imul hx hb dX5_writtenTwice_49 ?_
      refine lv_iload hx hb dX5_writtenTwice_50 (lv_at hl 4 rfl) ?_
      refine lv_iadd hx hb dX5_writtenTwice_52 ?_
      refine lv_i2l hx hb dX5_writtenTwice_53 rfl ?_
      refine lv_aload_n hx hb dX5_writtenTwice_54 rfl (lv_at hl 1 rfl) ?_
      refine lv_iload_n hx hb dX5_writtenTwice_55 rfl (lv_at hl 2 rfl) ?_
      obtain ⟨u6, hu6, h⟩ := md_b h
      refine kV C (ctX5_place l  hu6) gX5_writtenTwice_X5_place rfl kdvX5_place ⟨rfl, rfl⟩ ⟨by decide, by decide⟩ kW_blind (va_recv hK hP (ci := 2) (q0 := 0) rfl rfl) (kW_use hK (hP.sub (ws' := [(wo, .inr (2, [.ref w_ofX_a, .ref w_ofY_a, .ref w_places_a, .int w_lines])), (w_ofX_a, .inl (cI, 16, .inl w_ofX)), (w_ofY_a, .inl (cI, 16, .inl w_ofY)), (w_places_a, .inl (cI, 16, .inl w_places))]) [0, 1, 2, 3] rfl) kL_no) rfl hl [.long (Int32.toInt64 ((((x3_2 * (60 : Int32)) + z0_29) * (60 : Int32)) + x4_4))] rfl (Nat.le_of_ble_eq_true rfl) dX5_writtenTwice_56 ⟨by decide, by decide⟩ ?_
      obtain ⟨u7, hu7, h⟩ := md_b h
      refine kS C (ctX1_atPlace l  hu7) gX5_writtenTwice_X1_atPlace rfl kdX1_atPlace ⟨rfl, rfl⟩ ⟨by decide, by decide⟩ kT_blind (fun _ _ _ => trivial) rfl hl [] rfl (Nat.le_of_ble_eq_true rfl) dX5_writtenTwice_59 ⟨by decide, by decide⟩ ?_
      exact hQ u7 62 ls h dX5_writtenTwice_62
    replace h := md_t c5 h
    refine lv_ldc2 hx hb hown (hts _ wm_X5_writtenTwice_0) dX5_writtenTwice_36 ?_
    exact hQ (-1 : Int64) 39 ls h dX5_writtenTwice_39
  clear ekJ29
  refine lv_if_ne (tgt := 27) hx hb dX5_writtenTwice_20 (by decide) (fun c8 => ?_) (fun c8 => ?_)
  · replace h := md_f c8 h
    refine lv_iload hx hb dX5_writtenTwice_27 (lv_at hl 0 rfl) ?_
    exact KJ29 x4_4 h ls (lv_sub hl [2, 3, 1, 0] rfl)
  replace h := md_t c8 h
  refine lv_iload_n hx hb dX5_writtenTwice_23 rfl (lv_at hl 1 rfl) ?_
  refine lv_goto (tgt := 29) hx hb dX5_writtenTwice_24 (by decide) ?_
  exact KJ29 x3_2 h ls (lv_sub hl [2, 3, 1, 0] rfl)
set_option maxHeartbeats 4000000 in
theorem ctX5_writtenTwice (l : Launch) {D : va_G} {cI cT : ClassId} {wo w_ofX_a w_ofY_a w_places_a : Nat} {w_ofX : Nat → Int32} {w_ofY : Nat → Int32} {w_places : Nat → Int32} {w_lines : Int32} {p1 : Int32} {p2 : Int32} {res : Int64} (hm : mX5_writtenTwice w_ofX w_ofY w_places w_lines p1 p2 = some res) : Met l yX5_writtenTwice wsX5_writtenTwice rmX5_writtenTwice (va_Pc [.ref wo, .int p1, .int p2] (kW D cI cT [(wo, .inr (2, [.ref w_ofX_a, .ref w_ofY_a, .ref w_places_a, .int w_lines])), (w_ofX_a, .inl (cI, 16, .inl w_ofX)), (w_ofY_a, .inl (cI, 16, .inl w_ofY)), (w_places_a, .inl (cI, 16, .inl w_places))] none (fun _ => False))) (kR (.long res)) 0 0 (fun _ => False) :=
  km (by decide) rfl (Nat.le_of_ble_eq_true rfl) (fun p e s m below meth c ls C hB hl => bX5_writtenTwice C p1 p2 hB.1 w_ofX w_ofY w_places w_lines hB.2.1 res (fun v pc ls h hd => kr_l C h hd) hm ls hl)
theorem wm_X5_slipped_0 : Cond.constantLong RX5 75 (-1) ∈ wsX5_slipped := by decide +kernel
theorem kdvX5_slipped : yX5_slipped.cls = RX5 ∧ yX5_slipped.cls ≠ "java/lang/invoke/MethodHandle" ∧ yX5_slipped.cls ≠ "java/lang/invoke/VarHandle" ∧ (parseMethodDescriptor yX5_slipped.desc).map (fun d => d.parameters.length) = some 3 := by decide +kernel
abbrev rmX5_slipped : Room := { frames := 4, cells := 0, slots := 0, locals := 88 }
def mX5_slipped (w_ofX : Nat → Int32) (w_ofY : Nat → Int32) (w_places : Nat → Int32) (w_lines : Int32) (p1 : Int32) (p2 : Int32) (p3 : Int32) : Option Int64 := (if p2 = (0 : Int32) then (Option.bind (mX5_leftOut w_ofX w_ofY w_places w_lines p1 p3) (fun u2 => (some u2))) else (if p2 = (1 : Int32) then (Option.bind (mX5_placeLost w_ofX w_ofY w_places w_lines p1 p3) (fun u4 => (some u4))) else (if p2 = (2 : Int32) then (Option.bind (mX5_rowBeside w_ofX w_ofY w_places w_lines p1 p3) (fun u6 => (some u6))) else (if p2 = (3 : Int32) then (Option.bind (mX5_writtenTwice w_ofX w_ofY w_places w_lines p1 p3) (fun u8 => (some u8))) else (some (-1 : Int64))))))
set_option maxHeartbeats 4000000 in
set_option maxRecDepth 100000 in
theorem bX5_slipped {p : Program} {l : Launch} {e : Env} {s : State} {m : MethodId} {args : Array Value} {below : List Frame} {meth : Method} {c : Code} {Q : State → Prop} (C : kc p s m args meth c cX5_slipped 4 RX5 yX5_slipped.name wsX5_slipped (some .long)) {D : va_G} {cI cT : ClassId} {wo w_ofX_a w_ofY_a w_places_a : Nat} (p1 : Int32) (p2 : Int32) (p3 : Int32) (hK : va_K D vwCl (kTy cI cT) s) (w_ofX : Nat → Int32) (w_ofY : Nat → Int32) (w_places : Nat → Int32) (w_lines : Int32) (hP : va_P D vwCl [(wo, .inr (2, [.ref w_ofX_a, .ref w_ofY_a, .ref w_places_a, .int w_lines])), (w_ofX_a, .inl (cI, 16, .inl w_ofX)), (w_ofY_a, .inl (cI, 16, .inl w_ofY)), (w_places_a, .inl (cI, 16, .inl w_places))] s.heap) (res : Int64) (hQ : ∀ (v : Int64) (pc : Nat) (ls : Array Slot), some v = some res → decode cX5_slipped pc = .ok (.lreturn, 1) → W p l e rmX5_slipped s m args below meth c s.heap [] 0 0 Q (F0 m pc ls [.long v])) : mX5_slipped w_ofX w_ofY w_places w_lines p1 p2 p3 = some res → ∀ (ls : Array Slot), lv_has ls 4 [(0, .ref wo), (1, .int p1), (2, .int p2), (3, .int p3)] → W p l e rmX5_slipped s m args below meth c s.heap [] 0 0 Q (F0 m 0 ls []) := by
  intro h ls hl
  have C0 := C
  obtain ⟨hx, hb, hml, hown, hts, hr, hlk, hnm⟩ := C0
  rw [mX5_slipped] at h
  refine lv_iload_n hx hb dX5_slipped_0 rfl (lv_at hl 2 rfl) ?_
  by_cases c1 : p2 = (0 : Int32)
  · replace h := md_t c1 h
    refine lv_tableIn (tgt := 32) hx hb dX5_slipped_1 (by rw [c1]; decide) (by rw [c1]; decide) (by rw [c1]; rfl) (by decide) ?_
    refine lv_aload_n hx hb dX5_slipped_32 rfl (lv_at hl 0 rfl) ?_
    refine lv_iload_n hx hb dX5_slipped_33 rfl (lv_at hl 1 rfl) ?_
    refine lv_iload_n hx hb dX5_slipped_34 rfl (lv_at hl 3 rfl) ?_
    obtain ⟨u2, hu2, h⟩ := md_b h
    refine kV C (ctX5_leftOut l  hu2) gX5_slipped_X5_leftOut rfl kdvX5_leftOut ⟨rfl, rfl⟩ ⟨by decide, by decide⟩ kW_blind (va_recv hK hP (ci := 2) (q0 := 0) rfl rfl) (kW_use hK (hP.sub (ws' := [(wo, .inr (2, [.ref w_ofX_a, .ref w_ofY_a, .ref w_places_a, .int w_lines])), (w_ofX_a, .inl (cI, 16, .inl w_ofX)), (w_ofY_a, .inl (cI, 16, .inl w_ofY)), (w_places_a, .inl (cI, 16, .inl w_places))]) [0, 1, 2, 3] rfl) kL_no) rfl hl [] rfl (Nat.le_of_ble_eq_true rfl) dX5_slipped_35 ⟨by decide, by decide⟩ ?_
    exact hQ u2 38 ls h dX5_slipped_38
  replace h := md_f c1 h
  by_cases c3 : p2 = (1 : Int32)
  · replace h := md_t c3 h
    refine lv_tableIn (tgt := 39) hx hb dX5_slipped_1 (by rw [c3]; decide) (by rw [c3]; decide) (by rw [c3]; rfl) (by decide) ?_
    refine lv_aload_n hx hb dX5_slipped_39 rfl (lv_at hl 0 rfl) ?_
    refine lv_iload_n hx hb dX5_slipped_40 rfl (lv_at hl 1 rfl) ?_
    refine lv_iload_n hx hb dX5_slipped_41 rfl (lv_at hl 3 rfl) ?_
    obtain ⟨u4, hu4, h⟩ := md_b h
    refine kV C (ctX5_placeLost l  hu4) gX5_slipped_X5_placeLost rfl kdvX5_placeLost ⟨rfl, rfl⟩ ⟨by decide, by decide⟩ kW_blind (va_recv hK hP (ci := 2) (q0 := 0) rfl rfl) (kW_use hK (hP.sub (ws' := [(wo, .inr (2, [.ref w_ofX_a, .ref w_ofY_a, .ref w_places_a, .int w_lines])), (w_ofX_a, .inl (cI, 16, .inl w_ofX)), (w_ofY_a, .inl (cI, 16, .inl w_ofY)), (w_places_a, .inl (cI, 16, .inl w_places))]) [0, 1, 2, 3] rfl) kL_no) rfl hl [] rfl (Nat.le_of_ble_eq_true rfl) dX5_slipped_42 ⟨by decide, by decide⟩ ?_
    exact hQ u4 45 ls h dX5_slipped_45
  replace h := md_f c3 h
  by_cases c5 : p2 = (2 : Int32)
  · replace h := md_t c5 h
    refine lv_tableIn (tgt := 46) hx hb dX5_slipped_1 (by rw [c5]; decide) (by rw [c5]; decide) (by rw [c5]; rfl) (by decide) ?_
    refine lv_aload_n hx hb dX5_slipped_46 rfl (lv_at hl 0 rfl) ?_
    refine lv_iload_n hx hb dX5_slipped_47 rfl (lv_at hl 1 rfl) ?_
    refine lv_iload_n hx hb dX5_slipped_48 rfl (lv_at hl 3 rfl) ?_
    obtain ⟨u6, hu6, h⟩ := md_b h
    refine kV C (ctX5_rowBeside l  hu6) gX5_slipped_X5_rowBeside rfl kdvX5_rowBeside ⟨rfl, rfl⟩ ⟨by decide, by decide⟩ kW_blind (va_recv hK hP (ci := 2) (q0 := 0) rfl rfl) (kW_use hK (hP.sub (ws' := [(wo, .inr (2, [.ref w_ofX_a, .ref w_ofY_a, .ref w_places_a, .int w_lines])), (w_ofX_a, .inl (cI, 16, .inl w_ofX)), (w_ofY_a, .inl (cI, 16, .inl w_ofY)), (w_places_a, .inl (cI, 16, .inl w_places))]) [0, 1, 2, 3] rfl) kL_no) rfl hl [] rfl (Nat.le_of_ble_eq_true rfl) dX5_slipped_49 ⟨by decide, by decide⟩ ?_
    exact hQ u6 52 ls h dX5_slipped_52
  replace h := md_f c5 h
  by_cases c7 : p2 = (3 : Int32)
  · replace h := md_t c7 h
    refine lv_tableIn (tgt := 53) hx hb dX5_slipped_1 (by rw [c7]; decide) (by rw [c7]; decide) (by rw [c7]; rfl) (by decide) ?_
    refine lv_aload_n hx hb dX5_slipped_53 rfl (lv_at hl 0 rfl) ?_
    refine lv_iload_n hx hb dX5_slipped_54 rfl (lv_at hl 1 rfl) ?_
    refine lv_iload_n hx hb dX5_slipped_55 rfl (lv_at hl 3 rfl) ?_
    obtain ⟨u8, hu8, h⟩ := md_b h
    refine kV C (ctX5_writtenTwice l  hu8) gX5_slipped_X5_writtenTwice rfl kdvX5_writtenTwice ⟨rfl, rfl⟩ ⟨by decide, by decide⟩ kW_blind (va_recv hK hP (ci := 2) (q0 := 0) rfl rfl) (kW_use hK (hP.sub (ws' := [(wo, .inr (2, [.ref w_ofX_a, .ref w_ofY_a, .ref w_places_a, .int w_lines])), (w_ofX_a, .inl (cI, 16, .inl w_ofX)), (w_ofY_a, .inl (cI, 16, .inl w_ofY)), (w_places_a, .inl (cI, 16, .inl w_places))]) [0, 1, 2, 3] rfl) kL_no) rfl hl [] rfl (Nat.le_of_ble_eq_true rfl) dX5_slipped_56 ⟨by decide, by decide⟩ ?_
    exact hQ u8 59 ls h dX5_slipped_59
  replace h := md_f c7 h
  have tc1 := lv_neT (a := 0) c1 (by decide)
  have tc3 := lv_neT (a := 1) c3 (by decide)
  have tc5 := lv_neT (a := 2) c5 (by decide)
  have tc7 := lv_neT (a := 3) c7 (by decide)
  refine lv_tableOut (tgt := 60) hx hb dX5_slipped_1 (by omega) (by decide) ?_
  refine lv_ldc2 hx hb hown (hts _ wm_X5_slipped_0) dX5_slipped_60 ?_
  exact hQ (-1 : Int64) 63 ls h dX5_slipped_63
set_option maxHeartbeats 4000000 in
theorem ctX5_slipped (l : Launch) {D : va_G} {cI cT : ClassId} {wo w_ofX_a w_ofY_a w_places_a : Nat} {w_ofX : Nat → Int32} {w_ofY : Nat → Int32} {w_places : Nat → Int32} {w_lines : Int32} {p1 : Int32} {p2 : Int32} {p3 : Int32} {res : Int64} (hm : mX5_slipped w_ofX w_ofY w_places w_lines p1 p2 p3 = some res) : Met l yX5_slipped wsX5_slipped rmX5_slipped (va_Pc [.ref wo, .int p1, .int p2, .int p3] (kW D cI cT [(wo, .inr (2, [.ref w_ofX_a, .ref w_ofY_a, .ref w_places_a, .int w_lines])), (w_ofX_a, .inl (cI, 16, .inl w_ofX)), (w_ofY_a, .inl (cI, 16, .inl w_ofY)), (w_places_a, .inl (cI, 16, .inl w_places))] none (fun _ => False))) (kR (.long res)) 0 0 (fun _ => False) :=
  km (by decide) rfl (Nat.le_of_ble_eq_true rfl) (fun p e s m below meth c ls C hB hl => bX5_slipped C p1 p2 p3 hB.1 w_ofX w_ofY w_places w_lines hB.2.1 res (fun v pc ls h hd => kr_l C h hd) hm ls hl)
