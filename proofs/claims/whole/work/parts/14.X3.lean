theorem wm_X3_rowCount_0 : Cond.fieldLink RX3 16 "SixtyTablet$Tablet" "rows" "I" ∈ wsX3_rowCount := by decide +kernel
theorem wi_X3_rowCount_X3 : ∀ w ∈ wsX30, w ∈ wsX3_rowCount := by decide +kernel
theorem kdvX3_rowCount : yX3_rowCount.cls = RX3 ∧ yX3_rowCount.cls ≠ "java/lang/invoke/MethodHandle" ∧ yX3_rowCount.cls ≠ "java/lang/invoke/VarHandle" ∧ (parseMethodDescriptor yX3_rowCount.desc).map (fun d => d.parameters.length) = some 0 := by decide +kernel
abbrev rmX3_rowCount : Room := { frames := 0, cells := 0, slots := 0, locals := 0 }
def mX3_rowCount (t_rows : Int32) : Option Int32 := (some t_rows)
set_option maxHeartbeats 4000000 in
set_option maxRecDepth 100000 in
theorem bX3_rowCount {p : Program} {l : Launch} {e : Env} {s : State} {m : MethodId} {args : Array Value} {below : List Frame} {meth : Method} {c : Code} {Q : State → Prop} (C : kc p s m args meth c cX3_rowCount 1 RX3 yX3_rowCount.name wsX3_rowCount (some .int)) {D : va_G} {cI cT : ClassId} {to t_cells_a t_sixties_a : Nat} (hK : va_K D vwCl (kTy cI cT) s) (t_cells : Nat → Int32) (t_sixties : Nat → Int32) (t_rows : Int32) (hP : va_P D vwCl [(to, .inr (1, [.ref t_cells_a, .ref t_sixties_a, .int t_rows])), (t_cells_a, .inl (cI, 24, .inl t_cells)), (t_sixties_a, .inl (cI, 24, .inl t_sixties))] s.heap) (res : Int32) (hQ : ∀ (v : Int32) (pc : Nat) (ls : Array Slot), some v = some res → decode cX3_rowCount pc = .ok (.ireturn, 1) → W p l e rmX3_rowCount s m args below meth c s.heap [] 0 0 Q (F0 m pc ls [.int v])) : mX3_rowCount t_rows = some res → ∀ (ls : Array Slot), lv_has ls 1 [(0, .ref to)] → W p l e rmX3_rowCount s m args below meth c s.heap [] 0 0 Q (F0 m 0 ls []) := by
  intro h ls hl
  have C0 := C
  obtain ⟨hx, hb, hml, hown, hts, hr, hlk, hnm⟩ := C0
  rw [mX3_rowCount] at h
  refine lv_aload_n hx hb dX3_rowCount_0 rfl (lv_at hl 0 rfl) ?_
  refine va_get (D := D) (ci := 1) (v := .int t_rows) (C := RX3) (T := TX3) (N := 3) hx hb hts wi_X3_rowCount_X3 hown hK hP 0 rfl rfl 2 (by decide) (hts _ wm_X3_rowCount_0) (fun _ h9 => h9) rfl dX3_rowCount_1 ?_
  exact hQ t_rows 4 ls h dX3_rowCount_4
set_option maxHeartbeats 4000000 in
theorem ctX3_rowCount (l : Launch) {D : va_G} {cI cT : ClassId} {to t_cells_a t_sixties_a : Nat} {t_cells : Nat → Int32} {t_sixties : Nat → Int32} {t_rows : Int32} {res : Int32} (hm : mX3_rowCount t_rows = some res) : Met l yX3_rowCount wsX3_rowCount rmX3_rowCount (va_Pc [.ref to] (kW D cI cT [(to, .inr (1, [.ref t_cells_a, .ref t_sixties_a, .int t_rows])), (t_cells_a, .inl (cI, 24, .inl t_cells)), (t_sixties_a, .inl (cI, 24, .inl t_sixties))] none (fun _ => False))) (kR (.int res)) 0 0 (fun _ => False) :=
  km (by decide) rfl (Nat.le_of_ble_eq_true rfl) (fun p e s m below meth c ls C hB hl => bX3_rowCount C hB.1 t_cells t_sixties t_rows hB.2.1 res (fun v pc ls h hd => kr_i C h hd) hm ls hl)
theorem wm_X3_hasCell_0 : Cond.fieldLink RX3 16 "SixtyTablet$Tablet" "rows" "I" ∈ wsX3_hasCell := by decide +kernel
theorem wi_X3_hasCell_X3 : ∀ w ∈ wsX30, w ∈ wsX3_hasCell := by decide +kernel
theorem kdvX3_hasCell : yX3_hasCell.cls = RX3 ∧ yX3_hasCell.cls ≠ "java/lang/invoke/MethodHandle" ∧ yX3_hasCell.cls ≠ "java/lang/invoke/VarHandle" ∧ (parseMethodDescriptor yX3_hasCell.desc).map (fun d => d.parameters.length) = some 2 := by decide +kernel
abbrev rmX3_hasCell : Room := { frames := 0, cells := 0, slots := 0, locals := 0 }
def mX3_hasCell (t_rows : Int32) (p1 : Int32) (p2 : Int32) : Option Int32 := (if p1 < 0 then (some (0 : Int32)) else (if t_rows ≤ p1 then (some (0 : Int32)) else (if p2 < 0 then (some (0 : Int32)) else (if (3 : Int32) ≤ p2 then (some (0 : Int32)) else (some (1 : Int32))))))
set_option maxHeartbeats 4000000 in
set_option maxRecDepth 100000 in
theorem bX3_hasCell {p : Program} {l : Launch} {e : Env} {s : State} {m : MethodId} {args : Array Value} {below : List Frame} {meth : Method} {c : Code} {Q : State → Prop} (C : kc p s m args meth c cX3_hasCell 3 RX3 yX3_hasCell.name wsX3_hasCell (some .boolean)) {D : va_G} {cI cT : ClassId} {to t_cells_a t_sixties_a : Nat} (p1 : Int32) (p2 : Int32) (hK : va_K D vwCl (kTy cI cT) s) (t_cells : Nat → Int32) (t_sixties : Nat → Int32) (t_rows : Int32) (hP : va_P D vwCl [(to, .inr (1, [.ref t_cells_a, .ref t_sixties_a, .int t_rows])), (t_cells_a, .inl (cI, 24, .inl t_cells)), (t_sixties_a, .inl (cI, 24, .inl t_sixties))] s.heap) (res : Int32) (hQ : ∀ (v : Int32) (pc : Nat) (ls : Array Slot), v = 0 ∨ v = 1 → some v = some res → decode cX3_hasCell pc = .ok (.ireturn, 1) → W p l e rmX3_hasCell s m args below meth c s.heap [] 0 0 Q (F0 m pc ls [.int v])) : mX3_hasCell t_rows p1 p2 = some res → ∀ (ls : Array Slot), lv_has ls 3 [(0, .ref to), (1, .int p1), (2, .int p2)] → W p l e rmX3_hasCell s m args below meth c s.heap [] 0 0 Q (F0 m 0 ls []) := by
  intro h ls hl
  have C0 := C
  obtain ⟨hx, hb, hml, hown, hts, hr, hlk, hnm⟩ := C0
  rw [mX3_hasCell] at h
  refine lv_iload_n hx hb dX3_hasCell_0 rfl (lv_at hl 1 rfl) ?_
  refine lv_if_lt (tgt := 25) hx hb dX3_hasCell_1 (by decide) (fun c1 => ?_) (fun c1 => ?_)
  · replace h := md_t c1 h
    refine lv_iconst (v := 0) hx hb dX3_hasCell_25 (by decide) ?_
    exact hQ (0 : Int32) 26 ls (by decide) h dX3_hasCell_26
  replace h := md_f c1 h
  refine lv_iload_n hx hb dX3_hasCell_4 rfl (lv_at hl 1 rfl) ?_
  refine lv_aload_n hx hb dX3_hasCell_5 rfl (lv_at hl 0 rfl) ?_
  refine va_get (D := D) (ci := 1) (v := .int t_rows) (C := RX3) (T := TX3) (N := 3) hx hb hts wi_X3_hasCell_X3 hown hK hP 0 rfl rfl 2 (by decide) (hts _ wm_X3_hasCell_0) (fun _ h9 => h9) rfl dX3_hasCell_6 ?_
  refine lv_icmp_ge (tgt := 25) hx hb dX3_hasCell_9 (by decide) (fun c2 => ?_) (fun c2 => ?_)
  · replace h := md_t c2 h
    refine lv_iconst (v := 0) hx hb dX3_hasCell_25 (by decide) ?_
    exact hQ (0 : Int32) 26 ls (by decide) h dX3_hasCell_26
  replace h := md_f c2 h
  refine lv_iload_n hx hb dX3_hasCell_12 rfl (lv_at hl 2 rfl) ?_
  refine lv_if_lt (tgt := 25) hx hb dX3_hasCell_13 (by decide) (fun c3 => ?_) (fun c3 => ?_)
  · replace h := md_t c3 h
    refine lv_iconst (v := 0) hx hb dX3_hasCell_25 (by decide) ?_
    exact hQ (0 : Int32) 26 ls (by decide) h dX3_hasCell_26
  replace h := md_f c3 h
  refine lv_iload_n hx hb dX3_hasCell_16 rfl (lv_at hl 2 rfl) ?_
  refine lv_iconst (v := 3) hx hb dX3_hasCell_17 (by decide) ?_
  refine lv_icmp_ge (tgt := 25) hx hb dX3_hasCell_18 (by decide) (fun c4 => ?_) (fun c4 => ?_)
  · replace h := md_t c4 h
    refine lv_iconst (v := 0) hx hb dX3_hasCell_25 (by decide) ?_
    exact hQ (0 : Int32) 26 ls (by decide) h dX3_hasCell_26
  replace h := md_f c4 h
  refine lv_iconst (v := 1) hx hb dX3_hasCell_21 (by decide) ?_
  refine lv_goto (tgt := 26) hx hb dX3_hasCell_22 (by decide) ?_
  exact hQ (1 : Int32) 26 ls (by decide) h dX3_hasCell_26
set_option maxHeartbeats 4000000 in
theorem ctX3_hasCell (l : Launch) {D : va_G} {cI cT : ClassId} {to t_cells_a t_sixties_a : Nat} {t_cells : Nat → Int32} {t_sixties : Nat → Int32} {t_rows : Int32} {p1 : Int32} {p2 : Int32} {res : Int32} (hm : mX3_hasCell t_rows p1 p2 = some res) : Met l yX3_hasCell wsX3_hasCell rmX3_hasCell (va_Pc [.ref to, .int p1, .int p2] (kW D cI cT [(to, .inr (1, [.ref t_cells_a, .ref t_sixties_a, .int t_rows])), (t_cells_a, .inl (cI, 24, .inl t_cells)), (t_sixties_a, .inl (cI, 24, .inl t_sixties))] none (fun _ => False))) (kR (.int res)) 0 0 (fun _ => False) :=
  km (by decide) rfl (Nat.le_of_ble_eq_true rfl) (fun p e s m below meth c ls C hB hl => bX3_hasCell C p1 p2 hB.1 t_cells t_sixties t_rows hB.2.1 res (fun v pc ls hz h hd => kr_z C hz h hd) hm ls hl)
theorem wm_X3_smooth_0 : Cond.fieldLink RX3 16 "SixtyTablet$Tablet" "rows" "I" ∈ wsX3_smooth := by decide +kernel
theorem wm_X3_smooth_1 : Cond.fieldLink RX3 9 "SixtyTablet$Tablet" "cells" "[I" ∈ wsX3_smooth := by decide +kernel
theorem wm_X3_smooth_2 : Cond.fieldLink RX3 13 "SixtyTablet$Tablet" "sixties" "[I" ∈ wsX3_smooth := by decide +kernel
theorem wi_X3_smooth_X3 : ∀ w ∈ wsX30, w ∈ wsX3_smooth := by decide +kernel
theorem kdvX3_smooth : yX3_smooth.cls = RX3 ∧ yX3_smooth.cls ≠ "java/lang/invoke/MethodHandle" ∧ yX3_smooth.cls ≠ "java/lang/invoke/VarHandle" ∧ (parseMethodDescriptor yX3_smooth.desc).map (fun d => d.parameters.length) = some 1 := by decide +kernel
abbrev rmX3_smooth : Room := { frames := 0, cells := 0, slots := 0, locals := 0 }
def mlX3_smooth_7 (kE : (Nat → Int32) → (Nat → Int32) → Option ((Nat → Int32) × (Nat → Int32) × Int32)) : Nat → Int32 → (Nat → Int32) → (Nat → Int32) → Option ((Nat → Int32) × (Nat → Int32) × Int32)
  | 0, _, _, _ => none
  | n + 1, x2, t_cells, t_sixties => (if (24 : Int32) ≤ x2 then (kE t_cells t_sixties) else (if x2 < 0 ∨ 24 ≤ (Int32.toNatClampNeg x2) then none else (md_let (upd t_cells (Int32.toNatClampNeg x2) (0 : Int32)) (fun (t_cells_2 : Nat → Int32) => (if x2 < 0 ∨ 24 ≤ (Int32.toNatClampNeg x2) then none else (md_let (upd t_sixties (Int32.toNatClampNeg x2) (0 : Int32)) (fun (t_sixties_3 : Nat → Int32) => (md_let (x2 + (1 : Int32)) (fun (x2_4 : Int32) => (mlX3_smooth_7 kE n x2_4 t_cells_2 t_sixties_3))))))))))
set_option maxHeartbeats 4000000 in
set_option maxRecDepth 100000 in
theorem lX3_smooth_7 {p : Program} {l : Launch} {e : Env} {s : State} {m : MethodId} {args : Array Value} {below : List Frame} {meth : Method} {c : Code} {Q : State → Prop} (C : kc p s m args meth c cX3_smooth 3 RX3 yX3_smooth.name wsX3_smooth none) {D : va_G} {cI cT : ClassId} {to t_cells_a t_sixties_a : Nat} (hK : va_K D vwCl (kTy cI cT) s) (hnd : ([to, t_cells_a, t_sixties_a] : List Nat).Nodup) (t_rows : Int32) (res : ((Nat → Int32) × (Nat → Int32) × Int32)) (hQ : ∀ (t_cells : Nat → Int32) (t_sixties : Nat → Int32) (t_rows : Int32) (H : Heap) (locs : List Loc) (pc : Nat) (ls : Array Slot), some (t_cells, t_sixties, t_rows) = some res → va_P D vwCl [(to, .inr (1, [.ref t_cells_a, .ref t_sixties_a, .int t_rows])), (t_cells_a, .inl (cI, 24, .inl t_cells)), (t_sixties_a, .inl (cI, 24, .inl t_sixties))] H → va_S (fun q => q ∈ ([to, t_cells_a, t_sixties_a] : List Nat)) s.heap H locs → decode cX3_smooth pc = .ok (.return_, 1) → W p l e rmX3_smooth s m args below meth c H locs 0 0 Q (F0 m pc ls [])) (kE : (Nat → Int32) → (Nat → Int32) → Option ((Nat → Int32) × (Nat → Int32) × Int32)) (hE : ∀ (t_cells : Nat → Int32) (t_sixties : Nat → Int32), kE t_cells t_sixties = some res → ∀ (H : Heap) (locs : List Loc), va_P D vwCl [(to, .inr (1, [.ref t_cells_a, .ref t_sixties_a, .int t_rows])), (t_cells_a, .inl (cI, 24, .inl t_cells)), (t_sixties_a, .inl (cI, 24, .inl t_sixties))] H → va_S (fun q => q ∈ ([to, t_cells_a, t_sixties_a] : List Nat)) s.heap H locs → ∀ (ls : Array Slot), lv_has ls 3 [] → W p l e rmX3_smooth s m args below meth c H locs 0 0 Q (F0 m 33 ls [])) : ∀ (n : Nat), ∀ (x2 : Int32) (t_cells : Nat → Int32) (t_sixties : Nat → Int32), mlX3_smooth_7 kE n x2 t_cells t_sixties = some res → ∀ (H : Heap) (locs : List Loc), va_P D vwCl [(to, .inr (1, [.ref t_cells_a, .ref t_sixties_a, .int t_rows])), (t_cells_a, .inl (cI, 24, .inl t_cells)), (t_sixties_a, .inl (cI, 24, .inl t_sixties))] H → va_S (fun q => q ∈ ([to, t_cells_a, t_sixties_a] : List Nat)) s.heap H locs → ∀ (ls : Array Slot), lv_has ls 3 [(0, .ref to), (2, .int x2)] → W p l e rmX3_smooth s m args below meth c H locs 0 0 Q (F0 m 7 ls []) := by
  have C0 := C
  obtain ⟨hx, hb, hml, hown, hts, hr, hlk, hnm⟩ := C0
  intro n
  induction n with
  | zero => intro _ _ _ h; exact md_x h
  | succ n ih =>
    intro x2 t_cells t_sixties h H locs hP hS ls hl
    rw [mlX3_smooth_7] at h
    refine lv_iload_n hx hb dX3_smooth_7 rfl (lv_at hl 1 rfl) ?_
    refine lv_bipush (v := 24) hx hb dX3_smooth_8 (by decide) ?_
    refine lv_icmp_ge (tgt := 33) hx hb dX3_smooth_10 (by decide) (fun c1 => ?_) (fun c1 => ?_)
    · replace h := md_t c1 h
      exact hE t_cells t_sixties h _ _ hP hS ls (lv_sub hl [] rfl)
    replace h := md_f c1 h
    refine lv_aload_n hx hb dX3_smooth_13 rfl (lv_at hl 0 rfl) ?_
    refine va_get (D := D) (ci := 1) (v := .ref t_cells_a) (C := RX3) (T := TX3) (N := 3) hx hb hts wi_X3_smooth_X3 hown hK hP 0 rfl rfl 0 (by decide) (hts _ wm_X3_smooth_1) (fun _ h9 => h9) rfl dX3_smooth_14 ?_
    refine lv_iload_n hx hb dX3_smooth_17 rfl (lv_at hl 1 rfl) ?_
    refine lv_iconst (v := 0) hx hb dX3_smooth_18 (by decide) ?_
    obtain ⟨hin2, h⟩ := md_g h
    refine va_iast hx hb hK hP (kD hnd rfl) hS 1 0 rfl rfl hin2 dX3_smooth_19 (fun H locs hP _ hS => ?_)
    have hP : va_P D vwCl [(to, .inr (1, [.ref t_cells_a, .ref t_sixties_a, .int t_rows])), (t_cells_a, .inl (cI, 24, .inl (upd t_cells (Int32.toNatClampNeg x2) (0 : Int32)))), (t_sixties_a, .inl (cI, 24, .inl t_sixties))] H := hP
    obtain ⟨t_cells_2, et_cells_2⟩ : ∃ y : Nat → Int32, y = (upd t_cells (Int32.toNatClampNeg x2) (0 : Int32)) := ⟨_, rfl⟩
    replace h := md_le et_cells_2 h
    rw [← et_cells_2] at hP
    refine lv_aload_n hx hb dX3_smooth_20 rfl (lv_at hl 0 rfl) ?_
    refine va_get (D := D) (ci := 1) (v := .ref t_sixties_a) (C := RX3) (T := TX3) (N := 3) hx hb hts wi_X3_smooth_X3 hown hK hP 0 rfl rfl 1 (by decide) (hts _ wm_X3_smooth_2) (fun _ h9 => h9) rfl dX3_smooth_21 ?_
    refine lv_iload_n hx hb dX3_smooth_24 rfl (lv_at hl 1 rfl) ?_
    refine lv_iconst (v := 0) hx hb dX3_smooth_25 (by decide) ?_
    obtain ⟨hin3, h⟩ := md_g h
    refine va_iast hx hb hK hP (kD hnd rfl) hS 2 0 rfl rfl hin3 dX3_smooth_26 (fun H locs hP _ hS => ?_)
    have hP : va_P D vwCl [(to, .inr (1, [.ref t_cells_a, .ref t_sixties_a, .int t_rows])), (t_cells_a, .inl (cI, 24, .inl t_cells_2)), (t_sixties_a, .inl (cI, 24, .inl (upd t_sixties (Int32.toNatClampNeg x2) (0 : Int32))))] H := hP
    obtain ⟨t_sixties_3, et_sixties_3⟩ : ∃ y : Nat → Int32, y = (upd t_sixties (Int32.toNatClampNeg x2) (0 : Int32)) := ⟨_, rfl⟩
    replace h := md_le et_sixties_3 h
    rw [← et_sixties_3] at hP
    obtain ⟨x2_4, ex2_4⟩ : ∃ y : Int32, y = (x2 + (1 : Int32)) := ⟨_, rfl⟩
    replace h := md_le ex2_4 h
    refine lv_iinc (v := x2_4) (lv' := [(2, .int x2_4), (0, .ref to)]) hx hb dX3_smooth_27 hl (k := 1) rfl (by rw [ex2_4]; rfl) (by decide) rfl (fun ls hl => ?_)
    refine lv_goto (tgt := 7) hx hb dX3_smooth_30 (by decide) ?_
    exact ih x2_4 t_cells_2 t_sixties_3 h _ _ hP hS ls (lv_sub hl [1, 0] rfl)
def mX3_smooth (t_cells : Nat → Int32) (t_sixties : Nat → Int32) (p1 : Int32) : Option ((Nat → Int32) × (Nat → Int32) × Int32) := (mlX3_smooth_7 (fun (t_cells_33 : Nat → Int32) (t_sixties_33 : Nat → Int32) => (some (t_cells_33, t_sixties_33, p1))) kN (0 : Int32) t_cells t_sixties)
set_option maxHeartbeats 4000000 in
set_option maxRecDepth 100000 in
theorem bX3_smooth {p : Program} {l : Launch} {e : Env} {s : State} {m : MethodId} {args : Array Value} {below : List Frame} {meth : Method} {c : Code} {Q : State → Prop} (C : kc p s m args meth c cX3_smooth 3 RX3 yX3_smooth.name wsX3_smooth none) {D : va_G} {cI cT : ClassId} {to t_cells_a t_sixties_a : Nat} (p1 : Int32) (hK : va_K D vwCl (kTy cI cT) s) (hnd : ([to, t_cells_a, t_sixties_a] : List Nat).Nodup) (t_cells : Nat → Int32) (t_sixties : Nat → Int32) (t_rows : Int32) (res : ((Nat → Int32) × (Nat → Int32) × Int32)) (hQ : ∀ (t_cells : Nat → Int32) (t_sixties : Nat → Int32) (t_rows : Int32) (H : Heap) (locs : List Loc) (pc : Nat) (ls : Array Slot), some (t_cells, t_sixties, t_rows) = some res → va_P D vwCl [(to, .inr (1, [.ref t_cells_a, .ref t_sixties_a, .int t_rows])), (t_cells_a, .inl (cI, 24, .inl t_cells)), (t_sixties_a, .inl (cI, 24, .inl t_sixties))] H → va_S (fun q => q ∈ ([to, t_cells_a, t_sixties_a] : List Nat)) s.heap H locs → decode cX3_smooth pc = .ok (.return_, 1) → W p l e rmX3_smooth s m args below meth c H locs 0 0 Q (F0 m pc ls [])) : mX3_smooth t_cells t_sixties p1 = some res → ∀ (H : Heap) (locs : List Loc), va_P D vwCl [(to, .inr (1, [.ref t_cells_a, .ref t_sixties_a, .int t_rows])), (t_cells_a, .inl (cI, 24, .inl t_cells)), (t_sixties_a, .inl (cI, 24, .inl t_sixties))] H → va_S (fun q => q ∈ ([to, t_cells_a, t_sixties_a] : List Nat)) s.heap H locs → ∀ (ls : Array Slot), lv_has ls 3 [(0, .ref to), (1, .int p1)] → W p l e rmX3_smooth s m args below meth c H locs 0 0 Q (F0 m 0 ls []) := by
  intro h H locs hP hS ls hl
  have C0 := C
  obtain ⟨hx, hb, hml, hown, hts, hr, hlk, hnm⟩ := C0
  rw [mX3_smooth] at h
  refine lv_aload_n hx hb dX3_smooth_0 rfl (lv_at hl 0 rfl) ?_
  refine lv_iload_n hx hb dX3_smooth_1 rfl (lv_at hl 1 rfl) ?_
  refine va_put (D := D) (ci := 1) (v := .int p1) (ty := .int) (C := RX3) (T := TX3) (N := 3) hx hb hts wi_X3_smooth_X3 tyX3 tyX3_ok nmX3 hown hK hP (kD hnd rfl) hS 0 rfl rfl 2 (by decide) (hts _ wm_X3_smooth_0) (fun _ h9 => h9) rfl (by decide +kernel) rfl rfl (Nat.le_of_ble_eq_true rfl) dX3_smooth_2 (fun H locs hP _ hS => ?_)
  have hP : va_P D vwCl [(to, .inr (1, [.ref t_cells_a, .ref t_sixties_a, .int p1])), (t_cells_a, .inl (cI, 24, .inl t_cells)), (t_sixties_a, .inl (cI, 24, .inl t_sixties))] H := hP
  refine lv_iconst (v := 0) hx hb dX3_smooth_5 (by decide) ?_
  refine lv_istore_n (lv' := [(2, .int (0 : Int32)), (0, .ref to), (1, .int p1)]) hx hb dX3_smooth_6 rfl hl (by decide) rfl (fun ls hl => ?_)
  refine lX3_smooth_7 (to := to) (t_cells_a := t_cells_a) (t_sixties_a := t_sixties_a) C hK hnd p1 res hQ _ (fun t_cells_33 t_sixties_33 h H locs hP hS ls hl => ?_) kN (0 : Int32) t_cells t_sixties h _ _ hP hS ls (lv_sub hl [1, 0] rfl)
  exact hQ t_cells_33 t_sixties_33 p1 H locs 33 ls h hP hS dX3_smooth_33
set_option maxHeartbeats 4000000 in
theorem ctX3_smooth (l : Launch) {D : va_G} {cI cT : ClassId} {to t_cells_a t_sixties_a : Nat} {t_cells : Nat → Int32} {t_sixties : Nat → Int32} {t_rows : Int32} {p1 : Int32} {res : ((Nat → Int32) × (Nat → Int32) × Int32)} (hnd : ([to, t_cells_a, t_sixties_a] : List Nat).Nodup) (hm : mX3_smooth t_cells t_sixties p1 = some res) : Met l yX3_smooth wsX3_smooth rmX3_smooth (va_Pc [.ref to, .int p1] (kW D cI cT [(to, .inr (1, [.ref t_cells_a, .ref t_sixties_a, .int t_rows])), (t_cells_a, .inl (cI, 24, .inl t_cells)), (t_sixties_a, .inl (cI, 24, .inl t_sixties))] none (fun q => q ∈ ([to, t_cells_a, t_sixties_a] : List Nat)))) (kX none D [(to, .inr (1, [.ref t_cells_a, .ref t_sixties_a, .int res.2.2])), (t_cells_a, .inl (cI, 24, .inl res.1)), (t_sixties_a, .inl (cI, 24, .inl res.2.1))] (fun q => q ∈ ([to, t_cells_a, t_sixties_a] : List Nat))) 0 0 (fun q => q ∈ ([to, t_cells_a, t_sixties_a] : List Nat)) :=
  km (by decide) rfl (Nat.le_of_ble_eq_true rfl) (fun p e s m below meth c ls C hB hl => bX3_smooth C p1 hB.1 hnd t_cells t_sixties t_rows res (fun t_cells1 t_sixties1 t_rows1 H locs pc ls h hP hS hd => by obtain rfl := Option.some.inj h; exact kx_v C hP hS hd) hm s.heap [] hB.2.1 va_S.rf ls hl)
theorem wm_X3_hold_0 : Cond.fieldLink RX3 9 "SixtyTablet$Tablet" "cells" "[I" ∈ wsX3_hold := by decide +kernel
theorem wm_X3_hold_1 : Cond.fieldLink RX3 13 "SixtyTablet$Tablet" "sixties" "[I" ∈ wsX3_hold := by decide +kernel
theorem wi_X3_hold_X3 : ∀ w ∈ wsX30, w ∈ wsX3_hold := by decide +kernel
theorem kdvX3_hold : yX3_hold.cls = RX3 ∧ yX3_hold.cls ≠ "java/lang/invoke/MethodHandle" ∧ yX3_hold.cls ≠ "java/lang/invoke/VarHandle" ∧ (parseMethodDescriptor yX3_hold.desc).map (fun d => d.parameters.length) = some 3 := by decide +kernel
abbrev rmX3_hold : Room := { frames := 1, cells := 0, slots := 0, locals := 24 }
def mX3_hold (t_cells : Nat → Int32) (t_sixties : Nat → Int32) (p1 : Int32) (p2 : Int32) (p3 : Int32) : Option ((Nat → Int32) × (Nat → Int32)) := (md_let ((p1 * (3 : Int32)) + p2) (fun (x4_1 : Int32) => (if x4_1 < 0 then (some (t_cells, t_sixties)) else (if (24 : Int32) ≤ x4_1 then (some (t_cells, t_sixties)) else (if x4_1 < 0 ∨ 24 ≤ (Int32.toNatClampNeg x4_1) then none else (md_let (upd t_cells (Int32.toNatClampNeg x4_1) p3) (fun (t_cells_4 : Nat → Int32) => (md_jn (fun (z2_47 : Int32) => (if x4_1 < 0 ∨ 24 ≤ (Int32.toNatClampNeg x4_1) then none else (md_let (upd t_sixties (Int32.toNatClampNeg x4_1) z2_47) (fun (t_sixties_5 : Nat → Int32) => (some (t_cells_4, t_sixties_5)))))) (fun kJ47 => (if p3 = 0 then (kJ47 (0 : Int32)) else (Option.bind (mX1_strip (Int32.toInt64 p3)) (fun u7 => (kJ47 (Int64.toInt32 u7))))))))))))))
set_option maxHeartbeats 4000000 in
set_option maxRecDepth 100000 in
theorem bX3_hold {p : Program} {l : Launch} {e : Env} {s : State} {m : MethodId} {args : Array Value} {below : List Frame} {meth : Method} {c : Code} {Q : State → Prop} (C : kc p s m args meth c cX3_hold 5 RX3 yX3_hold.name wsX3_hold none) {D : va_G} {cI cT : ClassId} {to t_cells_a t_sixties_a : Nat} (p1 : Int32) (p2 : Int32) (p3 : Int32) (hK : va_K D vwCl (kTy cI cT) s) (hnd : ([to, t_cells_a, t_sixties_a] : List Nat).Nodup) (t_cells : Nat → Int32) (t_sixties : Nat → Int32) (t_rows : Int32) (res : ((Nat → Int32) × (Nat → Int32))) (hQ : ∀ (t_cells : Nat → Int32) (t_sixties : Nat → Int32) (H : Heap) (locs : List Loc) (pc : Nat) (ls : Array Slot), some (t_cells, t_sixties) = some res → va_P D vwCl [(to, .inr (1, [.ref t_cells_a, .ref t_sixties_a, .int t_rows])), (t_cells_a, .inl (cI, 24, .inl t_cells)), (t_sixties_a, .inl (cI, 24, .inl t_sixties))] H → va_S (fun q => q ∈ ([to, t_cells_a, t_sixties_a] : List Nat)) s.heap H locs → decode cX3_hold pc = .ok (.return_, 1) → W p l e rmX3_hold s m args below meth c H locs 0 0 Q (F0 m pc ls [])) : mX3_hold t_cells t_sixties p1 p2 p3 = some res → ∀ (H : Heap) (locs : List Loc), va_P D vwCl [(to, .inr (1, [.ref t_cells_a, .ref t_sixties_a, .int t_rows])), (t_cells_a, .inl (cI, 24, .inl t_cells)), (t_sixties_a, .inl (cI, 24, .inl t_sixties))] H → va_S (fun q => q ∈ ([to, t_cells_a, t_sixties_a] : List Nat)) s.heap H locs → ∀ (ls : Array Slot), lv_has ls 5 [(0, .ref to), (1, .int p1), (2, .int p2), (3, .int p3)] → W p l e rmX3_hold s m args below meth c H locs 0 0 Q (F0 m 0 ls []) := by
  intro h H locs hP hS ls hl
  have C0 := C
  obtain ⟨hx, hb, hml, hown, hts, hr, hlk, hnm⟩ := C0
  rw [mX3_hold] at h
  refine lv_iload_n hx hb dX3_hold_0 rfl (lv_at hl 1 rfl) ?_
  refine lv_iconst (v := 3) hx hb dX3_hold_1 (by decide) ?_
  refine lv_imul hx hb dX3_hold_2 ?_
  refine lv_iload_n hx hb dX3_hold_3 rfl (lv_at hl 2 rfl) ?_
  refine lv_iadd hx hb dX3_hold_4 ?_
  refine lv_topi (fun x4_1 ex4_1 => ?_)
  replace h := md_le ex4_1 h
  refine lv_istore (lv' := [(4, .int x4_1), (0, .ref to), (1, .int p1), (2, .int p2), (3, .int p3)]) hx hb dX3_hold_5 hl (by decide) rfl (fun ls hl => ?_)
  refine lv_iload hx hb dX3_hold_7 (lv_at hl 0 rfl) ?_
  refine lv_if_lt (tgt := 48) hx hb dX3_hold_9 (by decide) (fun c2 => ?_) (fun c2 => ?_)
  · replace h := md_t c2 h
    exact hQ t_cells t_sixties H locs 48 ls h hP hS dX3_hold_48
  replace h := md_f c2 h
  refine lv_iload hx hb dX3_hold_12 (lv_at hl 0 rfl) ?_
  refine lv_bipush (v := 24) hx hb dX3_hold_14 (by decide) ?_
  refine lv_icmp_ge (tgt := 48) hx hb dX3_hold_16 (by decide) (fun c3 => ?_) (fun c3 => ?_)
  · replace h := md_t c3 h
    exact hQ t_cells t_sixties H locs 48 ls h hP hS dX3_hold_48
  replace h := md_f c3 h
  refine lv_aload_n hx hb dX3_hold_19 rfl (lv_at hl 1 rfl) ?_
  refine va_get (D := D) (ci := 1) (v := .ref t_cells_a) (C := RX3) (T := TX3) (N := 3) hx hb hts wi_X3_hold_X3 hown hK hP 0 rfl rfl 0 (by decide) (hts _ wm_X3_hold_0) (fun _ h9 => h9) rfl dX3_hold_20 ?_
  refine lv_iload hx hb dX3_hold_23 (lv_at hl 0 rfl) ?_
  refine lv_iload_n hx hb dX3_hold_25 rfl (lv_at hl 4 rfl) ?_
  obtain ⟨hin4, h⟩ := md_g h
  refine va_iast hx hb hK hP (kD hnd rfl) hS 1 0 rfl rfl hin4 dX3_hold_26 (fun H locs hP _ hS => ?_)
  have hP : va_P D vwCl [(to, .inr (1, [.ref t_cells_a, .ref t_sixties_a, .int t_rows])), (t_cells_a, .inl (cI, 24, .inl (upd t_cells (Int32.toNatClampNeg x4_1) p3))), (t_sixties_a, .inl (cI, 24, .inl t_sixties))] H := hP
  obtain ⟨t_cells_4, et_cells_4⟩ : ∃ y : Nat → Int32, y = (upd t_cells (Int32.toNatClampNeg x4_1) p3) := ⟨_, rfl⟩
  replace h := md_le et_cells_4 h
  rw [← et_cells_4] at hP
  refine lv_aload_n hx hb dX3_hold_27 rfl (lv_at hl 1 rfl) ?_
  refine va_get (D := D) (ci := 1) (v := .ref t_sixties_a) (C := RX3) (T := TX3) (N := 3) hx hb hts wi_X3_hold_X3 hown hK hP 0 rfl rfl 1 (by decide) (hts _ wm_X3_hold_1) (fun _ h9 => h9) rfl dX3_hold_28 ?_
  refine lv_iload hx hb dX3_hold_31 (lv_at hl 0 rfl) ?_
  refine lv_iload_n hx hb dX3_hold_33 rfl (lv_at hl 4 rfl) ?_
  obtain ⟨kJ47, ekJ47, h⟩ := md_jo h
  have KJ47 : ∀ (z2_47 : Int32), kJ47 z2_47 = some res → ∀ (H : Heap) (locs : List Loc), va_P D vwCl [(to, .inr (1, [.ref t_cells_a, .ref t_sixties_a, .int t_rows])), (t_cells_a, .inl (cI, 24, .inl t_cells_4)), (t_sixties_a, .inl (cI, 24, .inl t_sixties))] H → va_S (fun q => q ∈ ([to, t_cells_a, t_sixties_a] : List Nat)) s.heap H locs → ∀ (ls : Array Slot), lv_has ls 5 [] → W p l e rmX3_hold s m args below meth c H locs 0 0 Q (F0 m 47 ls [.int z2_47, .int x4_1, .ref t_sixties_a]) := by
    intro z2_47 h H locs hP hS ls hl
    rw [ekJ47] at h
    obtain ⟨hin5, h⟩ := md_g h
    refine va_iast hx hb hK hP (kD hnd rfl) hS 2 0 rfl rfl hin5 dX3_hold_47 (fun H locs hP _ hS => ?_)
    have hP : va_P D vwCl [(to, .inr (1, [.ref t_cells_a, .ref t_sixties_a, .int t_rows])), (t_cells_a, .inl (cI, 24, .inl t_cells_4)), (t_sixties_a, .inl (cI, 24, .inl (upd t_sixties (Int32.toNatClampNeg x4_1) z2_47)))] H := hP
    obtain ⟨t_sixties_5, et_sixties_5⟩ : ∃ y : Nat → Int32, y = (upd t_sixties (Int32.toNatClampNeg x4_1) z2_47) := ⟨_, rfl⟩
    replace h := md_le et_sixties_5 h
    rw [← et_sixties_5] at hP
    exact hQ t_cells_4 t_sixties_5 H locs 48 ls h hP hS dX3_hold_48
  clear ekJ47
  refine lv_if_ne (tgt := 41) hx hb dX3_hold_34 (by decide) (fun c6 => ?_) (fun c6 => ?_)
  · replace h := md_f c6 h
    refine lv_iload_n hx hb dX3_hold_41 rfl (lv_at hl 4 rfl) ?_
    refine lv_i2l hx hb dX3_hold_42 rfl ?_
    obtain ⟨u7, hu7, h⟩ := md_b h
    refine kS C (ctX1_strip l  hu7) gX3_hold_X1_strip rfl kdX1_strip ⟨rfl, rfl⟩ ⟨by decide, by decide⟩ kT_blind (fun _ _ _ => trivial) rfl hl [.int x4_1, .ref t_sixties_a] rfl (Nat.le_of_ble_eq_true rfl) dX3_hold_43 ⟨by decide, by decide⟩ ?_
    refine lv_l2i hx hb dX3_hold_46 rfl ?_
    exact KJ47 (Int64.toInt32 u7) h _ _ hP hS ls (lv_sub hl [] rfl)
  replace h := md_t c6 h
  refine lv_iconst (v := 0) hx hb dX3_hold_37 (by decide) ?_
  refine lv_goto (tgt := 47) hx hb dX3_hold_38 (by decide) ?_
  exact KJ47 (0 : Int32) h _ _ hP hS ls (lv_sub hl [] rfl)
set_option maxHeartbeats 4000000 in
theorem ctX3_hold (l : Launch) {D : va_G} {cI cT : ClassId} {to t_cells_a t_sixties_a : Nat} {t_cells : Nat → Int32} {t_sixties : Nat → Int32} {t_rows : Int32} {p1 : Int32} {p2 : Int32} {p3 : Int32} {res : ((Nat → Int32) × (Nat → Int32))} (hnd : ([to, t_cells_a, t_sixties_a] : List Nat).Nodup) (hm : mX3_hold t_cells t_sixties p1 p2 p3 = some res) : Met l yX3_hold wsX3_hold rmX3_hold (va_Pc [.ref to, .int p1, .int p2, .int p3] (kW D cI cT [(to, .inr (1, [.ref t_cells_a, .ref t_sixties_a, .int t_rows])), (t_cells_a, .inl (cI, 24, .inl t_cells)), (t_sixties_a, .inl (cI, 24, .inl t_sixties))] none (fun q => q ∈ ([to, t_cells_a, t_sixties_a] : List Nat)))) (kX none D [(to, .inr (1, [.ref t_cells_a, .ref t_sixties_a, .int t_rows])), (t_cells_a, .inl (cI, 24, .inl res.1)), (t_sixties_a, .inl (cI, 24, .inl res.2))] (fun q => q ∈ ([to, t_cells_a, t_sixties_a] : List Nat))) 0 0 (fun q => q ∈ ([to, t_cells_a, t_sixties_a] : List Nat)) :=
  km (by decide) rfl (Nat.le_of_ble_eq_true rfl) (fun p e s m below meth c ls C hB hl => bX3_hold C p1 p2 p3 hB.1 hnd t_cells t_sixties t_rows res (fun t_cells1 t_sixties1 H locs pc ls h hP hS hd => by obtain rfl := Option.some.inj h; exact kx_v C hP hS hd) hm s.heap [] hB.2.1 va_S.rf ls hl)
theorem wm_X3_held_0 : Cond.fieldLink RX3 9 "SixtyTablet$Tablet" "cells" "[I" ∈ wsX3_held := by decide +kernel
theorem wi_X3_held_X3 : ∀ w ∈ wsX30, w ∈ wsX3_held := by decide +kernel
theorem kdvX3_held : yX3_held.cls = RX3 ∧ yX3_held.cls ≠ "java/lang/invoke/MethodHandle" ∧ yX3_held.cls ≠ "java/lang/invoke/VarHandle" ∧ (parseMethodDescriptor yX3_held.desc).map (fun d => d.parameters.length) = some 2 := by decide +kernel
abbrev rmX3_held : Room := { frames := 0, cells := 0, slots := 0, locals := 0 }
def mX3_held (t_cells : Nat → Int32) (p1 : Int32) (p2 : Int32) : Option Int32 := (md_let ((p1 * (3 : Int32)) + p2) (fun (x3_1 : Int32) => (if x3_1 < 0 then (some (0 : Int32)) else (if (24 : Int32) ≤ x3_1 then (some (0 : Int32)) else (if x3_1 < 0 ∨ 24 ≤ (Int32.toNatClampNeg x3_1) then none else (some (t_cells (Int32.toNatClampNeg x3_1))))))))
set_option maxHeartbeats 4000000 in
set_option maxRecDepth 100000 in
theorem bX3_held {p : Program} {l : Launch} {e : Env} {s : State} {m : MethodId} {args : Array Value} {below : List Frame} {meth : Method} {c : Code} {Q : State → Prop} (C : kc p s m args meth c cX3_held 4 RX3 yX3_held.name wsX3_held (some .int)) {D : va_G} {cI cT : ClassId} {to t_cells_a t_sixties_a : Nat} (p1 : Int32) (p2 : Int32) (hK : va_K D vwCl (kTy cI cT) s) (t_cells : Nat → Int32) (t_sixties : Nat → Int32) (t_rows : Int32) (hP : va_P D vwCl [(to, .inr (1, [.ref t_cells_a, .ref t_sixties_a, .int t_rows])), (t_cells_a, .inl (cI, 24, .inl t_cells)), (t_sixties_a, .inl (cI, 24, .inl t_sixties))] s.heap) (res : Int32) (hQ : ∀ (v : Int32) (pc : Nat) (ls : Array Slot), some v = some res → decode cX3_held pc = .ok (.ireturn, 1) → W p l e rmX3_held s m args below meth c s.heap [] 0 0 Q (F0 m pc ls [.int v])) : mX3_held t_cells p1 p2 = some res → ∀ (ls : Array Slot), lv_has ls 4 [(0, .ref to), (1, .int p1), (2, .int p2)] → W p l e rmX3_held s m args below meth c s.heap [] 0 0 Q (F0 m 0 ls []) := by
  intro h ls hl
  have C0 := C
  obtain ⟨hx, hb, hml, hown, hts, hr, hlk, hnm⟩ := C0
  rw [mX3_held] at h
  refine lv_iload_n hx hb dX3_held_0 rfl (lv_at hl 1 rfl) ?_
  refine lv_iconst (v := 3) hx hb dX3_held_1 (by decide) ?_
  refine lv_imul hx hb dX3_held_2 ?_
  refine lv_iload_n hx hb dX3_held_3 rfl (lv_at hl 2 rfl) ?_
  refine lv_iadd hx hb dX3_held_4 ?_
  refine lv_topi (fun x3_1 ex3_1 => ?_)
  replace h := md_le ex3_1 h
  refine lv_istore_n (lv' := [(3, .int x3_1), (0, .ref to), (1, .int p1), (2, .int p2)]) hx hb dX3_held_5 rfl hl (by decide) rfl (fun ls hl => ?_)
  refine lv_iload_n hx hb dX3_held_6 rfl (lv_at hl 0 rfl) ?_
  refine lv_if_lt (tgt := 25) hx hb dX3_held_7 (by decide) (fun c2 => ?_) (fun c2 => ?_)
  · replace h := md_t c2 h
    refine lv_iconst (v := 0) hx hb dX3_held_25 (by decide) ?_
    exact hQ (0 : Int32) 26 ls h dX3_held_26
  replace h := md_f c2 h
  refine lv_iload_n hx hb dX3_held_10 rfl (lv_at hl 0 rfl) ?_
  refine lv_bipush (v := 24) hx hb dX3_held_11 (by decide) ?_
  refine lv_icmp_ge (tgt := 25) hx hb dX3_held_13 (by decide) (fun c3 => ?_) (fun c3 => ?_)
  · replace h := md_t c3 h
    refine lv_iconst (v := 0) hx hb dX3_held_25 (by decide) ?_
    exact hQ (0 : Int32) 26 ls h dX3_held_26
  replace h := md_f c3 h
  refine lv_aload_n hx hb dX3_held_16 rfl (lv_at hl 1 rfl) ?_
  refine va_get (D := D) (ci := 1) (v := .ref t_cells_a) (C := RX3) (T := TX3) (N := 3) hx hb hts wi_X3_held_X3 hown hK hP 0 rfl rfl 0 (by decide) (hts _ wm_X3_held_0) (fun _ h9 => h9) rfl dX3_held_17 ?_
  refine lv_iload_n hx hb dX3_held_20 rfl (lv_at hl 0 rfl) ?_
  obtain ⟨hin4, h⟩ := md_g h
  refine va_iald hx hb hK hP 1 0 rfl rfl hin4 dX3_held_21 ?_
  refine lv_goto (tgt := 26) hx hb dX3_held_22 (by decide) ?_
  exact hQ (t_cells (Int32.toNatClampNeg x3_1)) 26 ls h dX3_held_26
set_option maxHeartbeats 4000000 in
theorem ctX3_held (l : Launch) {D : va_G} {cI cT : ClassId} {to t_cells_a t_sixties_a : Nat} {t_cells : Nat → Int32} {t_sixties : Nat → Int32} {t_rows : Int32} {p1 : Int32} {p2 : Int32} {res : Int32} (hm : mX3_held t_cells p1 p2 = some res) : Met l yX3_held wsX3_held rmX3_held (va_Pc [.ref to, .int p1, .int p2] (kW D cI cT [(to, .inr (1, [.ref t_cells_a, .ref t_sixties_a, .int t_rows])), (t_cells_a, .inl (cI, 24, .inl t_cells)), (t_sixties_a, .inl (cI, 24, .inl t_sixties))] none (fun _ => False))) (kR (.int res)) 0 0 (fun _ => False) :=
  km (by decide) rfl (Nat.le_of_ble_eq_true rfl) (fun p e s m below meth c ls C hB hl => bX3_held C p1 p2 hB.1 t_cells t_sixties t_rows hB.2.1 res (fun v pc ls h hd => kr_i C h hd) hm ls hl)
theorem wm_X3_heldSixty_0 : Cond.fieldLink RX3 13 "SixtyTablet$Tablet" "sixties" "[I" ∈ wsX3_heldSixty := by decide +kernel
theorem wi_X3_heldSixty_X3 : ∀ w ∈ wsX30, w ∈ wsX3_heldSixty := by decide +kernel
theorem kdvX3_heldSixty : yX3_heldSixty.cls = RX3 ∧ yX3_heldSixty.cls ≠ "java/lang/invoke/MethodHandle" ∧ yX3_heldSixty.cls ≠ "java/lang/invoke/VarHandle" ∧ (parseMethodDescriptor yX3_heldSixty.desc).map (fun d => d.parameters.length) = some 2 := by decide +kernel
abbrev rmX3_heldSixty : Room := { frames := 0, cells := 0, slots := 0, locals := 0 }
def mX3_heldSixty (t_sixties : Nat → Int32) (p1 : Int32) (p2 : Int32) : Option Int32 := (md_let ((p1 * (3 : Int32)) + p2) (fun (x3_1 : Int32) => (if x3_1 < 0 then (some (0 : Int32)) else (if (24 : Int32) ≤ x3_1 then (some (0 : Int32)) else (if x3_1 < 0 ∨ 24 ≤ (Int32.toNatClampNeg x3_1) then none else (some (t_sixties (Int32.toNatClampNeg x3_1))))))))
set_option maxHeartbeats 4000000 in
set_option maxRecDepth 100000 in
theorem bX3_heldSixty {p : Program} {l : Launch} {e : Env} {s : State} {m : MethodId} {args : Array Value} {below : List Frame} {meth : Method} {c : Code} {Q : State → Prop} (C : kc p s m args meth c cX3_heldSixty 4 RX3 yX3_heldSixty.name wsX3_heldSixty (some .int)) {D : va_G} {cI cT : ClassId} {to t_cells_a t_sixties_a : Nat} (p1 : Int32) (p2 : Int32) (hK : va_K D vwCl (kTy cI cT) s) (t_cells : Nat → Int32) (t_sixties : Nat → Int32) (t_rows : Int32) (hP : va_P D vwCl [(to, .inr (1, [.ref t_cells_a, .ref t_sixties_a, .int t_rows])), (t_cells_a, .inl (cI, 24, .inl t_cells)), (t_sixties_a, .inl (cI, 24, .inl t_sixties))] s.heap) (res : Int32) (hQ : ∀ (v : Int32) (pc : Nat) (ls : Array Slot), some v = some res → decode cX3_heldSixty pc = .ok (.ireturn, 1) → W p l e rmX3_heldSixty s m args below meth c s.heap [] 0 0 Q (F0 m pc ls [.int v])) : mX3_heldSixty t_sixties p1 p2 = some res → ∀ (ls : Array Slot), lv_has ls 4 [(0, .ref to), (1, .int p1), (2, .int p2)] → W p l e rmX3_heldSixty s m args below meth c s.heap [] 0 0 Q (F0 m 0 ls []) := by
  intro h ls hl
  have C0 := C
  obtain ⟨hx, hb, hml, hown, hts, hr, hlk, hnm⟩ := C0
  rw [mX3_heldSixty] at h
  refine lv_iload_n hx hb dX3_heldSixty_0 rfl (lv_at hl 1 rfl) ?_
  refine lv_iconst (v := 3) hx hb dX3_heldSixty_1 (by decide) ?_
  refine lv_imul hx hb dX3_heldSixty_2 ?_
  refine lv_iload_n hx hb dX3_heldSixty_3 rfl (lv_at hl 2 rfl) ?_
  refine lv_iadd hx hb dX3_heldSixty_4 ?_
  refine lv_topi (fun x3_1 ex3_1 => ?_)
  replace h := md_le ex3_1 h
  refine lv_istore_n (lv' := [(3, .int x3_1), (0, .ref to), (1, .int p1), (2, .int p2)]) hx hb dX3_heldSixty_5 rfl hl (by decide) rfl (fun ls hl => ?_)
  refine lv_iload_n hx hb dX3_heldSixty_6 rfl (lv_at hl 0 rfl) ?_
  refine lv_if_lt (tgt := 25) hx hb dX3_heldSixty_7 (by decide) (fun c2 => ?_) (fun c2 => ?_)
  · replace h := md_t c2 h
    refine lv_iconst (v := 0) hx hb dX3_heldSixty_25 (by decide) ?_
    exact hQ (0 : Int32) 26 ls h dX3_heldSixty_26
  replace h := md_f c2 h
  refine lv_iload_n hx hb dX3_heldSixty_10 rfl (lv_at hl 0 rfl) ?_
  refine lv_bipush (v := 24) hx hb dX3_heldSixty_11 (by decide) ?_
  refine lv_icmp_ge (tgt := 25) hx hb dX3_heldSixty_13 (by decide) (fun c3 => ?_) (fun c3 => ?_)
  · replace h := md_t c3 h
    refine lv_iconst (v := 0) hx hb dX3_heldSixty_25 (by decide) ?_
    exact hQ (0 : Int32) 26 ls h dX3_heldSixty_26
  replace h := md_f c3 h
  refine lv_aload_n hx hb dX3_heldSixty_16 rfl (lv_at hl 1 rfl) ?_
  refine va_get (D := D) (ci := 1) (v := .ref t_sixties_a) (C := RX3) (T := TX3) (N := 3) hx hb hts wi_X3_heldSixty_X3 hown hK hP 0 rfl rfl 1 (by decide) (hts _ wm_X3_heldSixty_0) (fun _ h9 => h9) rfl dX3_heldSixty_17 ?_
  refine lv_iload_n hx hb dX3_heldSixty_20 rfl (lv_at hl 0 rfl) ?_
  obtain ⟨hin4, h⟩ := md_g h
  refine va_iald hx hb hK hP 2 0 rfl rfl hin4 dX3_heldSixty_21 ?_
  refine lv_goto (tgt := 26) hx hb dX3_heldSixty_22 (by decide) ?_
  exact hQ (t_sixties (Int32.toNatClampNeg x3_1)) 26 ls h dX3_heldSixty_26
set_option maxHeartbeats 4000000 in
theorem ctX3_heldSixty (l : Launch) {D : va_G} {cI cT : ClassId} {to t_cells_a t_sixties_a : Nat} {t_cells : Nat → Int32} {t_sixties : Nat → Int32} {t_rows : Int32} {p1 : Int32} {p2 : Int32} {res : Int32} (hm : mX3_heldSixty t_sixties p1 p2 = some res) : Met l yX3_heldSixty wsX3_heldSixty rmX3_heldSixty (va_Pc [.ref to, .int p1, .int p2] (kW D cI cT [(to, .inr (1, [.ref t_cells_a, .ref t_sixties_a, .int t_rows])), (t_cells_a, .inl (cI, 24, .inl t_cells)), (t_sixties_a, .inl (cI, 24, .inl t_sixties))] none (fun _ => False))) (kR (.int res)) 0 0 (fun _ => False) :=
  km (by decide) rfl (Nat.le_of_ble_eq_true rfl) (fun p e s m below meth c ls C hB hl => bX3_heldSixty C p1 p2 hB.1 t_cells t_sixties t_rows hB.2.1 res (fun v pc ls h hd => kr_i C h hd) hm ls hl)
theorem kdvX3_mayBe : yX3_mayBe.cls = RX3 ∧ yX3_mayBe.cls ≠ "java/lang/invoke/MethodHandle" ∧ yX3_mayBe.cls ≠ "java/lang/invoke/VarHandle" ∧ (parseMethodDescriptor yX3_mayBe.desc).map (fun d => d.parameters.length) = some 3 := by decide +kernel
abbrev rmX3_mayBe : Room := { frames := 1, cells := 0, slots := 0, locals := 24 }
def mX3_mayBe (t_sixties : Nat → Int32) (p1 : Int32) (p2 : Int32) (p3 : Int32) : Option Int32 := (Option.bind (mX3_heldSixty t_sixties p1 p2) (fun u1 => (if u1 = 0 then (some (1 : Int32)) else (Option.bind (mX1_strip (Int32.toInt64 p3)) (fun u3 => (if (Int32.toInt64 u1) = u3 then (some (1 : Int32)) else (some (0 : Int32))))))))
set_option maxHeartbeats 4000000 in
set_option maxRecDepth 100000 in
theorem bX3_mayBe {p : Program} {l : Launch} {e : Env} {s : State} {m : MethodId} {args : Array Value} {below : List Frame} {meth : Method} {c : Code} {Q : State → Prop} (C : kc p s m args meth c cX3_mayBe 5 RX3 yX3_mayBe.name wsX3_mayBe (some .boolean)) {D : va_G} {cI cT : ClassId} {to t_cells_a t_sixties_a : Nat} (p1 : Int32) (p2 : Int32) (p3 : Int32) (hK : va_K D vwCl (kTy cI cT) s) (t_cells : Nat → Int32) (t_sixties : Nat → Int32) (t_rows : Int32) (hP : va_P D vwCl [(to, .inr (1, [.ref t_cells_a, .ref t_sixties_a, .int t_rows])), (t_cells_a, .inl (cI, 24, .inl t_cells)), (t_sixties_a, .inl (cI, 24, .inl t_sixties))] s.heap) (res : Int32) (hQ : ∀ (v : Int32) (pc : Nat) (ls : Array Slot), v = 0 ∨ v = 1 → some v = some res → decode cX3_mayBe pc = .ok (.ireturn, 1) → W p l e rmX3_mayBe s m args below meth c s.heap [] 0 0 Q (F0 m pc ls [.int v])) : mX3_mayBe t_sixties p1 p2 p3 = some res → ∀ (ls : Array Slot), lv_has ls 5 [(0, .ref to), (1, .int p1), (2, .int p2), (3, .int p3)] → W p l e rmX3_mayBe s m args below meth c s.heap [] 0 0 Q (F0 m 0 ls []) := by
  intro h ls hl
  have C0 := C
  obtain ⟨hx, hb, hml, hown, hts, hr, hlk, hnm⟩ := C0
  rw [mX3_mayBe] at h
  refine lv_aload_n hx hb dX3_mayBe_0 rfl (lv_at hl 0 rfl) ?_
  refine lv_iload_n hx hb dX3_mayBe_1 rfl (lv_at hl 1 rfl) ?_
  refine lv_iload_n hx hb dX3_mayBe_2 rfl (lv_at hl 2 rfl) ?_
  obtain ⟨u1, hu1, h⟩ := md_b h
  refine kV C (ctX3_heldSixty l  hu1) gX3_mayBe_X3_heldSixty rfl kdvX3_heldSixty ⟨rfl, rfl⟩ ⟨by decide, by decide⟩ kW_blind (va_recv hK hP (ci := 1) (q0 := 0) rfl rfl) (kW_use hK (hP.sub (ws' := [(to, .inr (1, [.ref t_cells_a, .ref t_sixties_a, .int t_rows])), (t_cells_a, .inl (cI, 24, .inl t_cells)), (t_sixties_a, .inl (cI, 24, .inl t_sixties))]) [0, 1, 2] rfl) kL_no) rfl hl [] rfl (Nat.le_of_ble_eq_true rfl) dX3_mayBe_3 ⟨by decide, by decide⟩ ?_
  refine lv_istore (lv' := [(4, .int u1), (0, .ref to), (1, .int p1), (2, .int p2), (3, .int p3)]) hx hb dX3_mayBe_6 hl (by decide) rfl (fun ls hl => ?_)
  refine lv_iload hx hb dX3_mayBe_8 (lv_at hl 0 rfl) ?_
  refine lv_if_eq (tgt := 25) hx hb dX3_mayBe_10 (by decide) (fun c2 => ?_) (fun c2 => ?_)
  · replace h := md_t c2 h
    refine lv_iconst (v := 1) hx hb dX3_mayBe_25 (by decide) ?_
    refine lv_goto (tgt := 30) hx hb dX3_mayBe_26 (by decide) ?_
    exact hQ (1 : Int32) 30 ls (by decide) h dX3_mayBe_30
  replace h := md_f c2 h
  refine lv_iload hx hb dX3_mayBe_13 (lv_at hl 0 rfl) ?_
  refine lv_i2l hx hb dX3_mayBe_15 rfl ?_
  refine lv_iload_n hx hb dX3_mayBe_16 rfl (lv_at hl 4 rfl) ?_
  refine lv_i2l hx hb dX3_mayBe_17 rfl ?_
  obtain ⟨u3, hu3, h⟩ := md_b h
  refine kS C (ctX1_strip l  hu3) gX3_mayBe_X1_strip rfl kdX1_strip ⟨rfl, rfl⟩ ⟨by decide, by decide⟩ kT_blind (fun _ _ _ => trivial) rfl hl [.long (Int32.toInt64 u1)] rfl (Nat.le_of_ble_eq_true rfl) dX3_mayBe_18 ⟨by decide, by decide⟩ ?_
  refine W.lcmp hx hb dX3_mayBe_21 ?_
  refine lv_if_ne (tgt := 29) hx hb dX3_mayBe_22 (by decide) (fun c4 => ?_) (fun c4 => ?_)
  · replace c4 := fun q9 => c4 ((lg_cmp_eq _ _).mpr q9)
    replace h := md_f c4 h
    refine lv_iconst (v := 0) hx hb dX3_mayBe_29 (by decide) ?_
    exact hQ (0 : Int32) 30 ls (by decide) h dX3_mayBe_30
  replace c4 := (lg_cmp_eq _ _).mp c4
  replace h := md_t c4 h
  refine lv_iconst (v := 1) hx hb dX3_mayBe_25 (by decide) ?_
  refine lv_goto (tgt := 30) hx hb dX3_mayBe_26 (by decide) ?_
  exact hQ (1 : Int32) 30 ls (by decide) h dX3_mayBe_30
set_option maxHeartbeats 4000000 in
theorem ctX3_mayBe (l : Launch) {D : va_G} {cI cT : ClassId} {to t_cells_a t_sixties_a : Nat} {t_cells : Nat → Int32} {t_sixties : Nat → Int32} {t_rows : Int32} {p1 : Int32} {p2 : Int32} {p3 : Int32} {res : Int32} (hm : mX3_mayBe t_sixties p1 p2 p3 = some res) : Met l yX3_mayBe wsX3_mayBe rmX3_mayBe (va_Pc [.ref to, .int p1, .int p2, .int p3] (kW D cI cT [(to, .inr (1, [.ref t_cells_a, .ref t_sixties_a, .int t_rows])), (t_cells_a, .inl (cI, 24, .inl t_cells)), (t_sixties_a, .inl (cI, 24, .inl t_sixties))] none (fun _ => False))) (kR (.int res)) 0 0 (fun _ => False) :=
  km (by decide) rfl (Nat.le_of_ble_eq_true rfl) (fun p e s m below meth c ls C hB hl => bX3_mayBe C p1 p2 p3 hB.1 t_cells t_sixties t_rows hB.2.1 res (fun v pc ls hz h hd => kr_z C hz h hd) hm ls hl)
theorem wm_X3_brokenCells_0 : Cond.fieldLink RX3 16 "SixtyTablet$Tablet" "rows" "I" ∈ wsX3_brokenCells := by decide +kernel
theorem wm_X3_brokenCells_1 : Cond.fieldLink RX3 9 "SixtyTablet$Tablet" "cells" "[I" ∈ wsX3_brokenCells := by decide +kernel
theorem wi_X3_brokenCells_X3 : ∀ w ∈ wsX30, w ∈ wsX3_brokenCells := by decide +kernel
theorem kdvX3_brokenCells : yX3_brokenCells.cls = RX3 ∧ yX3_brokenCells.cls ≠ "java/lang/invoke/MethodHandle" ∧ yX3_brokenCells.cls ≠ "java/lang/invoke/VarHandle" ∧ (parseMethodDescriptor yX3_brokenCells.desc).map (fun d => d.parameters.length) = some 0 := by decide +kernel
abbrev rmX3_brokenCells : Room := { frames := 0, cells := 0, slots := 0, locals := 0 }
def mlX3_brokenCells_4 (t_cells : Nat → Int32) (t_rows : Int32) (kE : Int32 → Option Int32) : Nat → Int32 → Int32 → Option Int32
  | 0, _, _ => none
  | n + 1, x1, x2 => (if (t_rows * (3 : Int32)) ≤ x2 then (kE x1) else (if (24 : Int32) ≤ x2 then (kE x1) else (if x2 < 0 ∨ 24 ≤ (Int32.toNatClampNeg x2) then none else (md_jn (fun (x1_32 : Int32) => (md_let (x2 + (1 : Int32)) (fun (x2_4 : Int32) => (mlX3_brokenCells_4 t_cells t_rows kE n x1_32 x2_4)))) (fun kJ32 => (if (t_cells (Int32.toNatClampNeg x2)) = 0 then (md_let (x1 + (1 : Int32)) (fun (x1_6 : Int32) => (kJ32 x1_6))) else (kJ32 x1)))))))
set_option maxHeartbeats 4000000 in
set_option maxRecDepth 100000 in
theorem lX3_brokenCells_4 {p : Program} {l : Launch} {e : Env} {s : State} {m : MethodId} {args : Array Value} {below : List Frame} {meth : Method} {c : Code} {Q : State → Prop} (C : kc p s m args meth c cX3_brokenCells 3 RX3 yX3_brokenCells.name wsX3_brokenCells (some .int)) {D : va_G} {cI cT : ClassId} {to t_cells_a t_sixties_a : Nat} (hK : va_K D vwCl (kTy cI cT) s) (t_cells : Nat → Int32) (t_sixties : Nat → Int32) (t_rows : Int32) (hP : va_P D vwCl [(to, .inr (1, [.ref t_cells_a, .ref t_sixties_a, .int t_rows])), (t_cells_a, .inl (cI, 24, .inl t_cells)), (t_sixties_a, .inl (cI, 24, .inl t_sixties))] s.heap) (res : Int32) (hQ : ∀ (v : Int32) (pc : Nat) (ls : Array Slot), some v = some res → decode cX3_brokenCells pc = .ok (.ireturn, 1) → W p l e rmX3_brokenCells s m args below meth c s.heap [] 0 0 Q (F0 m pc ls [.int v])) (kE : Int32 → Option Int32) (hE : ∀ (y1 : Int32), kE y1 = some res → ∀ (ls : Array Slot), lv_has ls 3 [(1, .int y1)] → W p l e rmX3_brokenCells s m args below meth c s.heap [] 0 0 Q (F0 m 38 ls [])) : ∀ (n : Nat), ∀ (x1 : Int32) (x2 : Int32), mlX3_brokenCells_4 t_cells t_rows kE n x1 x2 = some res → ∀ (ls : Array Slot), lv_has ls 3 [(0, .ref to), (1, .int x1), (2, .int x2)] → W p l e rmX3_brokenCells s m args below meth c s.heap [] 0 0 Q (F0 m 4 ls []) := by
  have C0 := C
  obtain ⟨hx, hb, hml, hown, hts, hr, hlk, hnm⟩ := C0
  intro n
  induction n with
  | zero => intro _ _ h; exact md_x h
  | succ n ih =>
    intro x1 x2 h ls hl
    rw [mlX3_brokenCells_4] at h
    refine lv_iload_n hx hb dX3_brokenCells_4 rfl (lv_at hl 2 rfl) ?_
    refine lv_aload_n hx hb dX3_brokenCells_5 rfl (lv_at hl 0 rfl) ?_
    refine va_get (D := D) (ci := 1) (v := .int t_rows) (C := RX3) (T := TX3) (N := 3) hx hb hts wi_X3_brokenCells_X3 hown hK hP 0 rfl rfl 2 (by decide) (hts _ wm_X3_brokenCells_0) (fun _ h9 => h9) rfl dX3_brokenCells_6 ?_
    refine lv_iconst (v := 3) hx hb dX3_brokenCells_9 (by decide) ?_
    refine lv_imul hx hb dX3_brokenCells_10 ?_
    refine lv_icmp_ge (tgt := 38) hx hb dX3_brokenCells_11 (by decide) (fun c1 => ?_) (fun c1 => ?_)
    · replace h := md_t c1 h
      exact hE x1 h ls (lv_sub hl [1] rfl)
    replace h := md_f c1 h
    refine lv_iload_n hx hb dX3_brokenCells_14 rfl (lv_at hl 2 rfl) ?_
    refine lv_bipush (v := 24) hx hb dX3_brokenCells_15 (by decide) ?_
    refine lv_icmp_ge (tgt := 38) hx hb dX3_brokenCells_17 (by decide) (fun c2 => ?_) (fun c2 => ?_)
    · replace h := md_t c2 h
      exact hE x1 h ls (lv_sub hl [1] rfl)
    replace h := md_f c2 h
    refine lv_aload_n hx hb dX3_brokenCells_20 rfl (lv_at hl 0 rfl) ?_
    refine va_get (D := D) (ci := 1) (v := .ref t_cells_a) (C := RX3) (T := TX3) (N := 3) hx hb hts wi_X3_brokenCells_X3 hown hK hP 0 rfl rfl 0 (by decide) (hts _ wm_X3_brokenCells_1) (fun _ h9 => h9) rfl dX3_brokenCells_21 ?_
    refine lv_iload_n hx hb dX3_brokenCells_24 rfl (lv_at hl 2 rfl) ?_
    obtain ⟨hin3, h⟩ := md_g h
    refine va_iald hx hb hK hP 1 0 rfl rfl hin3 dX3_brokenCells_25 ?_
    obtain ⟨kJ32, ekJ32, h⟩ := md_jo h
    have KJ32 : ∀ (x1_32 : Int32), kJ32 x1_32 = some res → ∀ (ls : Array Slot), lv_has ls 3 [(0, .ref to), (1, .int x1_32), (2, .int x2)] → W p l e rmX3_brokenCells s m args below meth c s.heap [] 0 0 Q (F0 m 32 ls []) := by
      intro x1_32 h ls hl
      rw [ekJ32] at h
      obtain ⟨x2_4, ex2_4⟩ : ∃ y : Int32, y = (x2 + (1 : Int32)) := ⟨_, rfl⟩
      replace h := md_le ex2_4 h
      refine lv_iinc (v := x2_4) (lv' := [(2, .int x2_4), (0, .ref to), (1, .int x1_32)]) hx hb dX3_brokenCells_32 hl (k := 2) rfl (by rw [ex2_4]; rfl) (by decide) rfl (fun ls hl => ?_)
      refine lv_goto (tgt := 4) hx hb dX3_brokenCells_35 (by decide) ?_
      exact ih x1_32 x2_4 h ls (lv_sub hl [1, 2, 0] rfl)
    clear ekJ32
    refine lv_if_ne (tgt := 32) hx hb dX3_brokenCells_26 (by decide) (fun c5 => ?_) (fun c5 => ?_)
    · replace h := md_f c5 h
      exact KJ32 x1 h ls (lv_sub hl [0, 1, 2] rfl)
    replace h := md_t c5 h
    obtain ⟨x1_6, ex1_6⟩ : ∃ y : Int32, y = (x1 + (1 : Int32)) := ⟨_, rfl⟩
    replace h := md_le ex1_6 h
    refine lv_iinc (v := x1_6) (lv' := [(1, .int x1_6), (0, .ref to), (2, .int x2)]) hx hb dX3_brokenCells_29 hl (k := 1) rfl (by rw [ex1_6]; rfl) (by decide) rfl (fun ls hl => ?_)
    exact KJ32 x1_6 h ls (lv_sub hl [1, 0, 2] rfl)
def mX3_brokenCells (t_cells : Nat → Int32) (t_rows : Int32) : Option Int32 := (mlX3_brokenCells_4 t_cells t_rows (fun (y1_38 : Int32) => (some y1_38)) kN (0 : Int32) (0 : Int32))
set_option maxHeartbeats 4000000 in
set_option maxRecDepth 100000 in
theorem bX3_brokenCells {p : Program} {l : Launch} {e : Env} {s : State} {m : MethodId} {args : Array Value} {below : List Frame} {meth : Method} {c : Code} {Q : State → Prop} (C : kc p s m args meth c cX3_brokenCells 3 RX3 yX3_brokenCells.name wsX3_brokenCells (some .int)) {D : va_G} {cI cT : ClassId} {to t_cells_a t_sixties_a : Nat} (hK : va_K D vwCl (kTy cI cT) s) (t_cells : Nat → Int32) (t_sixties : Nat → Int32) (t_rows : Int32) (hP : va_P D vwCl [(to, .inr (1, [.ref t_cells_a, .ref t_sixties_a, .int t_rows])), (t_cells_a, .inl (cI, 24, .inl t_cells)), (t_sixties_a, .inl (cI, 24, .inl t_sixties))] s.heap) (res : Int32) (hQ : ∀ (v : Int32) (pc : Nat) (ls : Array Slot), some v = some res → decode cX3_brokenCells pc = .ok (.ireturn, 1) → W p l e rmX3_brokenCells s m args below meth c s.heap [] 0 0 Q (F0 m pc ls [.int v])) : mX3_brokenCells t_cells t_rows = some res → ∀ (ls : Array Slot), lv_has ls 3 [(0, .ref to)] → W p l e rmX3_brokenCells s m args below meth c s.heap [] 0 0 Q (F0 m 0 ls []) := by
  intro h ls hl
  have C0 := C
  obtain ⟨hx, hb, hml, hown, hts, hr, hlk, hnm⟩ := C0
  rw [mX3_brokenCells] at h
  refine lv_iconst (v := 0) hx hb dX3_brokenCells_0 (by decide) ?_
  refine lv_istore_n (lv' := [(1, .int (0 : Int32)), (0, .ref to)]) hx hb dX3_brokenCells_1 rfl hl (by decide) rfl (fun ls hl => ?_)
  refine lv_iconst (v := 0) hx hb dX3_brokenCells_2 (by decide) ?_
  refine lv_istore_n (lv' := [(2, .int (0 : Int32)), (1, .int (0 : Int32)), (0, .ref to)]) hx hb dX3_brokenCells_3 rfl hl (by decide) rfl (fun ls hl => ?_)
  refine lX3_brokenCells_4 (to := to) (t_cells_a := t_cells_a) (t_sixties_a := t_sixties_a) C hK t_cells t_sixties t_rows hP res hQ _ (fun y1_38 h ls hl => ?_) kN (0 : Int32) (0 : Int32) h ls (lv_sub hl [2, 1, 0] rfl)
  refine lv_iload_n hx hb dX3_brokenCells_38 rfl (lv_at hl 0 rfl) ?_
  exact hQ y1_38 39 ls h dX3_brokenCells_39
set_option maxHeartbeats 4000000 in
theorem ctX3_brokenCells (l : Launch) {D : va_G} {cI cT : ClassId} {to t_cells_a t_sixties_a : Nat} {t_cells : Nat → Int32} {t_sixties : Nat → Int32} {t_rows : Int32} {res : Int32} (hm : mX3_brokenCells t_cells t_rows = some res) : Met l yX3_brokenCells wsX3_brokenCells rmX3_brokenCells (va_Pc [.ref to] (kW D cI cT [(to, .inr (1, [.ref t_cells_a, .ref t_sixties_a, .int t_rows])), (t_cells_a, .inl (cI, 24, .inl t_cells)), (t_sixties_a, .inl (cI, 24, .inl t_sixties))] none (fun _ => False))) (kR (.int res)) 0 0 (fun _ => False) :=
  km (by decide) rfl (Nat.le_of_ble_eq_true rfl) (fun p e s m below meth c ls C hB hl => bX3_brokenCells C hB.1 t_cells t_sixties t_rows hB.2.1 res (fun v pc ls h hd => kr_i C h hd) hm ls hl)
theorem wm_X3_fits_0 : Cond.fieldLink RX3 16 "SixtyTablet$Tablet" "rows" "I" ∈ wsX3_fits := by decide +kernel
theorem wi_X3_fits_X3 : ∀ w ∈ wsX30, w ∈ wsX3_fits := by decide +kernel
theorem kdvX3_fits : yX3_fits.cls = RX3 ∧ yX3_fits.cls ≠ "java/lang/invoke/MethodHandle" ∧ yX3_fits.cls ≠ "java/lang/invoke/VarHandle" ∧ (parseMethodDescriptor yX3_fits.desc).map (fun d => d.parameters.length) = some 2 := by decide +kernel
abbrev rmX3_fits : Room := { frames := 1, cells := 0, slots := 0, locals := 23 }
def mlX3_fits_13 (x2 : Int32) (x3 : Int32) (t_sixties : Nat → Int32) (u_sixties : Nat → Int32) (kE : Unit → Option Int32) : Nat → Int32 → Option Int32
  | 0, _ => none
  | n + 1, x4 => (if (3 : Int32) ≤ x4 then (kE ()) else (Option.bind (mX3_heldSixty u_sixties x3 x4) (fun u3 => (Option.bind (mX3_heldSixty t_sixties (x2 + x3) x4) (fun u4 => (md_jn (fun (u_58 : Unit) => (md_let (x4 + (1 : Int32)) (fun (x4_5 : Int32) => (mlX3_fits_13 x2 x3 t_sixties u_sixties kE n x4_5)))) (fun kJ58 => (if u3 = 0 then (kJ58 ()) else (if u4 = 0 then (kJ58 ()) else (if u3 = u4 then (kJ58 ()) else (some (0 : Int32))))))))))))
set_option maxHeartbeats 4000000 in
set_option maxRecDepth 100000 in
theorem lX3_fits_13 {p : Program} {l : Launch} {e : Env} {s : State} {m : MethodId} {args : Array Value} {below : List Frame} {meth : Method} {c : Code} {Q : State → Prop} (C : kc p s m args meth c cX3_fits 7 RX3 yX3_fits.name wsX3_fits (some .boolean)) {D : va_G} {cI cT : ClassId} {to t_cells_a t_sixties_a uo u_cells_a u_sixties_a : Nat} (hK : va_K D vwCl (kTy cI cT) s) (x2 : Int32) (x3 : Int32) (t_cells : Nat → Int32) (t_sixties : Nat → Int32) (t_rows : Int32) (u_cells : Nat → Int32) (u_sixties : Nat → Int32) (u_rows : Int32) (hP : va_P D vwCl [(to, .inr (1, [.ref t_cells_a, .ref t_sixties_a, .int t_rows])), (t_cells_a, .inl (cI, 24, .inl t_cells)), (t_sixties_a, .inl (cI, 24, .inl t_sixties)), (uo, .inr (1, [.ref u_cells_a, .ref u_sixties_a, .int u_rows])), (u_cells_a, .inl (cI, 24, .inl u_cells)), (u_sixties_a, .inl (cI, 24, .inl u_sixties))] s.heap) (res : Int32) (hQ : ∀ (v : Int32) (pc : Nat) (ls : Array Slot), v = 0 ∨ v = 1 → some v = some res → decode cX3_fits pc = .ok (.ireturn, 1) → W p l e rmX3_fits s m args below meth c s.heap [] 0 0 Q (F0 m pc ls [.int v])) (kE : Unit → Option Int32) (hE : ∀ (u_ : Unit), kE u_ = some res → ∀ (ls : Array Slot), lv_has ls 7 [(0, .ref to), (1, .ref uo), (2, .int x2), (3, .int x3)] → W p l e rmX3_fits s m args below meth c s.heap [] 0 0 Q (F0 m 64 ls [])) : ∀ (n : Nat), ∀ (x4 : Int32), mlX3_fits_13 x2 x3 t_sixties u_sixties kE n x4 = some res → ∀ (ls : Array Slot), lv_has ls 7 [(0, .ref to), (1, .ref uo), (2, .int x2), (3, .int x3), (4, .int x4)] → W p l e rmX3_fits s m args below meth c s.heap [] 0 0 Q (F0 m 13 ls []) := by
  have C0 := C
  obtain ⟨hx, hb, hml, hown, hts, hr, hlk, hnm⟩ := C0
  intro n
  induction n with
  | zero => intro _ h; exact md_x h
  | succ n ih =>
    intro x4 h ls hl
    rw [mlX3_fits_13] at h
    refine lv_iload hx hb dX3_fits_13 (lv_at hl 4 rfl) ?_
    refine lv_iconst (v := 3) hx hb dX3_fits_15 (by decide) ?_
    refine lv_icmp_ge (tgt := 64) hx hb dX3_fits_16 (by decide) (fun c2 => ?_) (fun c2 => ?_)
    · replace h := md_t c2 h
      exact hE () h ls (lv_sub hl [0, 1, 2, 3] rfl)
    replace h := md_f c2 h
    refine lv_aload_n hx hb dX3_fits_19 rfl (lv_at hl 1 rfl) ?_
    refine lv_iload_n hx hb dX3_fits_20 rfl (lv_at hl 3 rfl) ?_
    refine lv_iload hx hb dX3_fits_21 (lv_at hl 4 rfl) ?_
    obtain ⟨u3, hu3, h⟩ := md_b h
    refine kV C (ctX3_heldSixty l  hu3) gX3_fits_X3_heldSixty rfl kdvX3_heldSixty ⟨rfl, rfl⟩ ⟨by decide, by decide⟩ kW_blind (va_recv hK hP (ci := 1) (q0 := 3) rfl rfl) (kW_use hK (hP.sub (ws' := [(uo, .inr (1, [.ref u_cells_a, .ref u_sixties_a, .int u_rows])), (u_cells_a, .inl (cI, 24, .inl u_cells)), (u_sixties_a, .inl (cI, 24, .inl u_sixties))]) [3, 4, 5] rfl) kL_no) rfl hl [] rfl (Nat.le_of_ble_eq_true rfl) dX3_fits_23 ⟨by decide, by decide⟩ ?_
    refine lv_istore (lv' := [(5, .int u3), (0, .ref to), (1, .ref uo), (2, .int x2), (3, .int x3), (4, .int x4)]) hx hb dX3_fits_26 hl (by decide) rfl (fun ls hl => ?_)
    refine lv_aload_n hx hb dX3_fits_28 rfl (lv_at hl 1 rfl) ?_
    refine lv_iload_n hx hb dX3_fits_29 rfl (lv_at hl 3 rfl) ?_
    refine lv_iload_n hx hb dX3_fits_30 rfl (lv_at hl 4 rfl) ?_
    refine lv_iadd hx hb dX3_fits_31 ?_
    refine lv_iload hx hb dX3_fits_32 (lv_at hl 5 rfl) ?_
    obtain ⟨u4, hu4, h⟩ := md_b h
    refine kV C (ctX3_heldSixty l  hu4) gX3_fits_X3_heldSixty rfl kdvX3_heldSixty ⟨rfl, rfl⟩ ⟨by decide, by decide⟩ kW_blind (va_recv hK hP (ci := 1) (q0 := 0) rfl rfl) (kW_use hK (hP.sub (ws' := [(to, .inr (1, [.ref t_cells_a, .ref t_sixties_a, .int t_rows])), (t_cells_a, .inl (cI, 24, .inl t_cells)), (t_sixties_a, .inl (cI, 24, .inl t_sixties))]) [0, 1, 2] rfl) kL_no) rfl hl [] rfl (Nat.le_of_ble_eq_true rfl) dX3_fits_34 ⟨by decide, by decide⟩ ?_
    refine lv_istore (lv' := [(6, .int u4), (5, .int u3), (0, .ref to), (1, .ref uo), (2, .int x2), (3, .int x3), (4, .int x4)]) hx hb dX3_fits_37 hl (by decide) rfl (fun ls hl => ?_)
    refine lv_iload hx hb dX3_fits_39 (lv_at hl 1 rfl) ?_
    obtain ⟨kJ58, ekJ58, h⟩ := md_jo h
    have KJ58 : ∀ (u_58 : Unit), kJ58 u_58 = some res → ∀ (ls : Array Slot), lv_has ls 7 [(0, .ref to), (1, .ref uo), (2, .int x2), (3, .int x3), (4, .int x4)] → W p l e rmX3_fits s m args below meth c s.heap [] 0 0 Q (F0 m 58 ls []) := by
      intro u_58 h ls hl
      rw [ekJ58] at h
      obtain ⟨x4_5, ex4_5⟩ : ∃ y : Int32, y = (x4 + (1 : Int32)) := ⟨_, rfl⟩
      replace h := md_le ex4_5 h
      refine lv_iinc (v := x4_5) (lv' := [(4, .int x4_5), (0, .ref to), (1, .ref uo), (2, .int x2), (3, .int x3)]) hx hb dX3_fits_58 hl (k := 4) rfl (by rw [ex4_5]; rfl) (by decide) rfl (fun ls hl => ?_)
      refine lv_goto (tgt := 13) hx hb dX3_fits_61 (by decide) ?_
      exact ih x4_5 h ls (lv_sub hl [1, 2, 3, 4, 0] rfl)
    clear ekJ58
    refine lv_if_eq (tgt := 58) hx hb dX3_fits_41 (by decide) (fun c6 => ?_) (fun c6 => ?_)
    · replace h := md_t c6 h
      exact KJ58 () h ls (lv_sub hl [2, 3, 4, 5, 6] rfl)
    replace h := md_f c6 h
    refine lv_iload hx hb dX3_fits_44 (lv_at hl 0 rfl) ?_
    refine lv_if_eq (tgt := 58) hx hb dX3_fits_46 (by decide) (fun c7 => ?_) (fun c7 => ?_)
    · replace h := md_t c7 h
      exact KJ58 () h ls (lv_sub hl [2, 3, 4, 5, 6] rfl)
    replace h := md_f c7 h
    refine lv_iload hx hb dX3_fits_49 (lv_at hl 1 rfl) ?_
    refine lv_iload hx hb dX3_fits_51 (lv_at hl 0 rfl) ?_
    refine lv_icmp_eq (tgt := 58) hx hb dX3_fits_53 (by decide) (fun c8 => ?_) (fun c8 => ?_)
    · replace h := md_t c8 h
      exact KJ58 () h ls (lv_sub hl [2, 3, 4, 5, 6] rfl)
    replace h := md_f c8 h
    refine lv_iconst (v := 0) hx hb dX3_fits_56 (by decide) ?_
    exact hQ (0 : Int32) 57 ls (by decide) h dX3_fits_57
def mlX3_fits_2 (x2 : Int32) (t_sixties : Nat → Int32) (u_sixties : Nat → Int32) (u_rows : Int32) (kE : Unit → Option Int32) : Nat → Int32 → Option Int32
  | 0, _ => none
  | n + 1, x3 => (if u_rows ≤ x3 then (kE ()) else (mlX3_fits_13 x2 x3 t_sixties u_sixties (fun (u_64 : Unit) => (md_let (x3 + (1 : Int32)) (fun (x3_9 : Int32) => (mlX3_fits_2 x2 t_sixties u_sixties u_rows kE n x3_9)))) kN (0 : Int32)))
set_option maxHeartbeats 4000000 in
set_option maxRecDepth 100000 in
theorem lX3_fits_2 {p : Program} {l : Launch} {e : Env} {s : State} {m : MethodId} {args : Array Value} {below : List Frame} {meth : Method} {c : Code} {Q : State → Prop} (C : kc p s m args meth c cX3_fits 7 RX3 yX3_fits.name wsX3_fits (some .boolean)) {D : va_G} {cI cT : ClassId} {to t_cells_a t_sixties_a uo u_cells_a u_sixties_a : Nat} (hK : va_K D vwCl (kTy cI cT) s) (x2 : Int32) (t_cells : Nat → Int32) (t_sixties : Nat → Int32) (t_rows : Int32) (u_cells : Nat → Int32) (u_sixties : Nat → Int32) (u_rows : Int32) (hP : va_P D vwCl [(to, .inr (1, [.ref t_cells_a, .ref t_sixties_a, .int t_rows])), (t_cells_a, .inl (cI, 24, .inl t_cells)), (t_sixties_a, .inl (cI, 24, .inl t_sixties)), (uo, .inr (1, [.ref u_cells_a, .ref u_sixties_a, .int u_rows])), (u_cells_a, .inl (cI, 24, .inl u_cells)), (u_sixties_a, .inl (cI, 24, .inl u_sixties))] s.heap) (res : Int32) (hQ : ∀ (v : Int32) (pc : Nat) (ls : Array Slot), v = 0 ∨ v = 1 → some v = some res → decode cX3_fits pc = .ok (.ireturn, 1) → W p l e rmX3_fits s m args below meth c s.heap [] 0 0 Q (F0 m pc ls [.int v])) (kE : Unit → Option Int32) (hE : ∀ (u_ : Unit), kE u_ = some res → ∀ (ls : Array Slot), lv_has ls 7 [] → W p l e rmX3_fits s m args below meth c s.heap [] 0 0 Q (F0 m 70 ls [])) : ∀ (n : Nat), ∀ (x3 : Int32), mlX3_fits_2 x2 t_sixties u_sixties u_rows kE n x3 = some res → ∀ (ls : Array Slot), lv_has ls 7 [(0, .ref to), (1, .ref uo), (2, .int x2), (3, .int x3)] → W p l e rmX3_fits s m args below meth c s.heap [] 0 0 Q (F0 m 2 ls []) := by
  have C0 := C
  obtain ⟨hx, hb, hml, hown, hts, hr, hlk, hnm⟩ := C0
  intro n
  induction n with
  | zero => intro _ h; exact md_x h
  | succ n ih =>
    intro x3 h ls hl
    rw [mlX3_fits_2] at h
    refine lv_iload_n hx hb dX3_fits_2 rfl (lv_at hl 3 rfl) ?_
    refine lv_aload_n hx hb dX3_fits_3 rfl (lv_at hl 1 rfl) ?_
    refine va_get (D := D) (ci := 1) (v := .int u_rows) (C := RX3) (T := TX3) (N := 3) hx hb hts wi_X3_fits_X3 hown hK hP 3 rfl rfl 2 (by decide) (hts _ wm_X3_fits_0) (fun _ h9 => h9) rfl dX3_fits_4 ?_
    refine lv_icmp_ge (tgt := 70) hx hb dX3_fits_7 (by decide) (fun c1 => ?_) (fun c1 => ?_)
    · replace h := md_t c1 h
      exact hE () h ls (lv_sub hl [] rfl)
    replace h := md_f c1 h
    refine lv_iconst (v := 0) hx hb dX3_fits_10 (by decide) ?_
    refine lv_istore (lv' := [(4, .int (0 : Int32)), (0, .ref to), (1, .ref uo), (2, .int x2), (3, .int x3)]) hx hb dX3_fits_11 hl (by decide) rfl (fun ls hl => ?_)
    refine lX3_fits_13 (to := to) (t_cells_a := t_cells_a) (t_sixties_a := t_sixties_a) (uo := uo) (u_cells_a := u_cells_a) (u_sixties_a := u_sixties_a) C hK x2 x3 t_cells t_sixties t_rows u_cells u_sixties u_rows hP res hQ _ (fun u_64 h ls hl => ?_) kN (0 : Int32) h ls (lv_sub hl [1, 2, 3, 4, 0] rfl)
    obtain ⟨x3_9, ex3_9⟩ : ∃ y : Int32, y = (x3 + (1 : Int32)) := ⟨_, rfl⟩
    replace h := md_le ex3_9 h
    refine lv_iinc (v := x3_9) (lv' := [(3, .int x3_9), (0, .ref to), (1, .ref uo), (2, .int x2)]) hx hb dX3_fits_64 hl (k := 3) rfl (by rw [ex3_9]; rfl) (by decide) rfl (fun ls hl => ?_)
    refine lv_goto (tgt := 2) hx hb dX3_fits_67 (by decide) ?_
    exact ih x3_9 h ls (lv_sub hl [1, 2, 3, 0] rfl)
def mX3_fits (t_sixties : Nat → Int32) (u_sixties : Nat → Int32) (u_rows : Int32) (p2 : Int32) : Option Int32 := (mlX3_fits_2 p2 t_sixties u_sixties u_rows (fun (u_70 : Unit) => (some (1 : Int32))) kN (0 : Int32))
set_option maxHeartbeats 4000000 in
set_option maxRecDepth 100000 in
theorem bX3_fits {p : Program} {l : Launch} {e : Env} {s : State} {m : MethodId} {args : Array Value} {below : List Frame} {meth : Method} {c : Code} {Q : State → Prop} (C : kc p s m args meth c cX3_fits 7 RX3 yX3_fits.name wsX3_fits (some .boolean)) {D : va_G} {cI cT : ClassId} {to t_cells_a t_sixties_a uo u_cells_a u_sixties_a : Nat} (p2 : Int32) (hK : va_K D vwCl (kTy cI cT) s) (t_cells : Nat → Int32) (t_sixties : Nat → Int32) (t_rows : Int32) (u_cells : Nat → Int32) (u_sixties : Nat → Int32) (u_rows : Int32) (hP : va_P D vwCl [(to, .inr (1, [.ref t_cells_a, .ref t_sixties_a, .int t_rows])), (t_cells_a, .inl (cI, 24, .inl t_cells)), (t_sixties_a, .inl (cI, 24, .inl t_sixties)), (uo, .inr (1, [.ref u_cells_a, .ref u_sixties_a, .int u_rows])), (u_cells_a, .inl (cI, 24, .inl u_cells)), (u_sixties_a, .inl (cI, 24, .inl u_sixties))] s.heap) (res : Int32) (hQ : ∀ (v : Int32) (pc : Nat) (ls : Array Slot), v = 0 ∨ v = 1 → some v = some res → decode cX3_fits pc = .ok (.ireturn, 1) → W p l e rmX3_fits s m args below meth c s.heap [] 0 0 Q (F0 m pc ls [.int v])) : mX3_fits t_sixties u_sixties u_rows p2 = some res → ∀ (ls : Array Slot), lv_has ls 7 [(0, .ref to), (1, .ref uo), (2, .int p2)] → W p l e rmX3_fits s m args below meth c s.heap [] 0 0 Q (F0 m 0 ls []) := by
  intro h ls hl
  have C0 := C
  obtain ⟨hx, hb, hml, hown, hts, hr, hlk, hnm⟩ := C0
  rw [mX3_fits] at h
  refine lv_iconst (v := 0) hx hb dX3_fits_0 (by decide) ?_
  refine lv_istore_n (lv' := [(3, .int (0 : Int32)), (0, .ref to), (1, .ref uo), (2, .int p2)]) hx hb dX3_fits_1 rfl hl (by decide) rfl (fun ls hl => ?_)
  refine lX3_fits_2 (to := to) (t_cells_a := t_cells_a) (t_sixties_a := t_sixties_a) (uo := uo) (u_cells_a := u_cells_a) (u_sixties_a := u_sixties_a) C hK p2 t_cells t_sixties t_rows u_cells u_sixties u_rows hP res hQ _ (fun u_70 h ls hl => ?_) kN (0 : Int32) h ls (lv_sub hl [1, 2, 3, 0] rfl)
  refine lv_iconst (v := 1) hx hb dX3_fits_70 (by decide) ?_
  exact hQ (1 : Int32) 71 ls (by decide) h dX3_fits_71
set_option maxHeartbeats 4000000 in
theorem ctX3_fits (l : Launch) {D : va_G} {cI cT : ClassId} {to t_cells_a t_sixties_a uo u_cells_a u_sixties_a : Nat} {t_cells : Nat → Int32} {t_sixties : Nat → Int32} {t_rows : Int32} {u_cells : Nat → Int32} {u_sixties : Nat → Int32} {u_rows : Int32} {p2 : Int32} {res : Int32} (hm : mX3_fits t_sixties u_sixties u_rows p2 = some res) : Met l yX3_fits wsX3_fits rmX3_fits (va_Pc [.ref to, .ref uo, .int p2] (kW D cI cT [(to, .inr (1, [.ref t_cells_a, .ref t_sixties_a, .int t_rows])), (t_cells_a, .inl (cI, 24, .inl t_cells)), (t_sixties_a, .inl (cI, 24, .inl t_sixties)), (uo, .inr (1, [.ref u_cells_a, .ref u_sixties_a, .int u_rows])), (u_cells_a, .inl (cI, 24, .inl u_cells)), (u_sixties_a, .inl (cI, 24, .inl u_sixties))] none (fun _ => False))) (kR (.int res)) 0 0 (fun _ => False) :=
  km (by decide) rfl (Nat.le_of_ble_eq_true rfl) (fun p e s m below meth c ls C hB hl => bX3_fits C p2 hB.1 t_cells t_sixties t_rows u_cells u_sixties u_rows hB.2.1 res (fun v pc ls hz h hd => kr_z C hz h hd) hm ls hl)
theorem wm_X3_take_0 : Cond.fieldLink RX3 16 "SixtyTablet$Tablet" "rows" "I" ∈ wsX3_take := by decide +kernel
theorem wm_X3_take_1 : Cond.methodLink RX3 30 Lib.Math.max.name ∈ wsX3_take := by decide +kernel
theorem wm_X3_take_2 : Cond.static Lib.Math.max.name ∈ wsX3_take := by decide +kernel
theorem wm_X3_take_3 : Cond.initialized "java/lang/Math" ∈ wsX3_take := by decide +kernel
theorem wm_X3_take_4 : Cond.code Lib.Math.max.name Lib.Math.max.code 2 (some .int) ∈ wsX3_take := by decide +kernel
theorem wm_X3_take_5 : Cond.methodLink RX3 35 Lib.Math.min.name ∈ wsX3_take := by decide +kernel
theorem wm_X3_take_6 : Cond.static Lib.Math.min.name ∈ wsX3_take := by decide +kernel
theorem wm_X3_take_7 : Cond.code Lib.Math.min.name Lib.Math.min.code 2 (some .int) ∈ wsX3_take := by decide +kernel
theorem wi_X3_take_X3 : ∀ w ∈ wsX30, w ∈ wsX3_take := by decide +kernel
theorem kdvX3_take : yX3_take.cls = RX3 ∧ yX3_take.cls ≠ "java/lang/invoke/MethodHandle" ∧ yX3_take.cls ≠ "java/lang/invoke/VarHandle" ∧ (parseMethodDescriptor yX3_take.desc).map (fun d => d.parameters.length) = some 2 := by decide +kernel
abbrev rmX3_take : Room := { frames := 2, cells := 0, slots := 0, locals := 48 }
def mlX3_take_35 (x2 : Int32) (x3 : Int32) (u_cells : Nat → Int32) (kE : (Nat → Int32) → (Nat → Int32) → Option ((Nat → Int32) × (Nat → Int32) × Int32)) : Nat → Int32 → (Nat → Int32) → (Nat → Int32) → Option ((Nat → Int32) × (Nat → Int32) × Int32)
  | 0, _, _, _ => none
  | n + 1, x4, t_cells, t_sixties => (if (3 : Int32) ≤ x4 then (kE t_cells t_sixties) else (Option.bind (mX3_held t_cells (x2 + x3) x4) (fun u4 => (md_jn (fun (t_cells_69 : Nat → Int32) (t_sixties_69 : Nat → Int32) => (md_let (x4 + (1 : Int32)) (fun (x4_5 : Int32) => (mlX3_take_35 x2 x3 u_cells kE n x4_5 t_cells_69 t_sixties_69)))) (fun kJ69 => (if u4 = 0 then (Option.bind (mX3_held u_cells x3 x4) (fun u7 => (Option.bind (mX3_hold t_cells t_sixties (x2 + x3) x4 u7) (fun u8 => (kJ69 u8.1 u8.2))))) else (kJ69 t_cells t_sixties)))))))
set_option maxHeartbeats 4000000 in
set_option maxRecDepth 100000 in
theorem lX3_take_35 {p : Program} {l : Launch} {e : Env} {s : State} {m : MethodId} {args : Array Value} {below : List Frame} {meth : Method} {c : Code} {Q : State → Prop} (C : kc p s m args meth c cX3_take 5 RX3 yX3_take.name wsX3_take none) {D : va_G} {cI cT : ClassId} {to t_cells_a t_sixties_a uo u_cells_a u_sixties_a : Nat} (hK : va_K D vwCl (kTy cI cT) s) (hnd : ([to, t_cells_a, t_sixties_a, uo, u_cells_a, u_sixties_a] : List Nat).Nodup) (x2 : Int32) (x3 : Int32) (t_rows : Int32) (u_cells : Nat → Int32) (u_sixties : Nat → Int32) (u_rows : Int32) (res : ((Nat → Int32) × (Nat → Int32) × Int32)) (hQ : ∀ (t_cells : Nat → Int32) (t_sixties : Nat → Int32) (t_rows : Int32) (H : Heap) (locs : List Loc) (pc : Nat) (ls : Array Slot), some (t_cells, t_sixties, t_rows) = some res → va_P D vwCl [(to, .inr (1, [.ref t_cells_a, .ref t_sixties_a, .int t_rows])), (t_cells_a, .inl (cI, 24, .inl t_cells)), (t_sixties_a, .inl (cI, 24, .inl t_sixties)), (uo, .inr (1, [.ref u_cells_a, .ref u_sixties_a, .int u_rows])), (u_cells_a, .inl (cI, 24, .inl u_cells)), (u_sixties_a, .inl (cI, 24, .inl u_sixties))] H → va_S (fun q => q ∈ ([to, t_cells_a, t_sixties_a, uo, u_cells_a, u_sixties_a] : List Nat)) s.heap H locs → decode cX3_take pc = .ok (.return_, 1) → W p l e rmX3_take s m args below meth c H locs 0 0 Q (F0 m pc ls [])) (kE : (Nat → Int32) → (Nat → Int32) → Option ((Nat → Int32) × (Nat → Int32) × Int32)) (hE : ∀ (t_cells : Nat → Int32) (t_sixties : Nat → Int32), kE t_cells t_sixties = some res → ∀ (H : Heap) (locs : List Loc), va_P D vwCl [(to, .inr (1, [.ref t_cells_a, .ref t_sixties_a, .int t_rows])), (t_cells_a, .inl (cI, 24, .inl t_cells)), (t_sixties_a, .inl (cI, 24, .inl t_sixties)), (uo, .inr (1, [.ref u_cells_a, .ref u_sixties_a, .int u_rows])), (u_cells_a, .inl (cI, 24, .inl u_cells)), (u_sixties_a, .inl (cI, 24, .inl u_sixties))] H → va_S (fun q => q ∈ ([to, t_cells_a, t_sixties_a, uo, u_cells_a, u_sixties_a] : List Nat)) s.heap H locs → ∀ (ls : Array Slot), lv_has ls 5 [(0, .ref to), (1, .ref uo), (2, .int x2), (3, .int x3)] → W p l e rmX3_take s m args below meth c H locs 0 0 Q (F0 m 75 ls [])) : ∀ (n : Nat), ∀ (x4 : Int32) (t_cells : Nat → Int32) (t_sixties : Nat → Int32), mlX3_take_35 x2 x3 u_cells kE n x4 t_cells t_sixties = some res → ∀ (H : Heap) (locs : List Loc), va_P D vwCl [(to, .inr (1, [.ref t_cells_a, .ref t_sixties_a, .int t_rows])), (t_cells_a, .inl (cI, 24, .inl t_cells)), (t_sixties_a, .inl (cI, 24, .inl t_sixties)), (uo, .inr (1, [.ref u_cells_a, .ref u_sixties_a, .int u_rows])), (u_cells_a, .inl (cI, 24, .inl u_cells)), (u_sixties_a, .inl (cI, 24, .inl u_sixties))] H → va_S (fun q => q ∈ ([to, t_cells_a, t_sixties_a, uo, u_cells_a, u_sixties_a] : List Nat)) s.heap H locs → ∀ (ls : Array Slot), lv_has ls 5 [(0, .ref to), (1, .ref uo), (2, .int x2), (3, .int x3), (4, .int x4)] → W p l e rmX3_take s m args below meth c H locs 0 0 Q (F0 m 35 ls []) := by
  have C0 := C
  obtain ⟨hx, hb, hml, hown, hts, hr, hlk, hnm⟩ := C0
  intro n
  induction n with
  | zero => intro _ _ _ h; exact md_x h
  | succ n ih =>
    intro x4 t_cells t_sixties h H locs hP hS ls hl
    rw [mlX3_take_35] at h
    refine lv_iload hx hb dX3_take_35 (lv_at hl 4 rfl) ?_
    refine lv_iconst (v := 3) hx hb dX3_take_37 (by decide) ?_
    refine lv_icmp_ge (tgt := 75) hx hb dX3_take_38 (by decide) (fun c3 => ?_) (fun c3 => ?_)
    · replace h := md_t c3 h
      exact hE t_cells t_sixties h _ _ hP hS ls (lv_sub hl [0, 1, 2, 3] rfl)
    replace h := md_f c3 h
    refine lv_aload_n hx hb dX3_take_41 rfl (lv_at hl 0 rfl) ?_
    refine lv_iload_n hx hb dX3_take_42 rfl (lv_at hl 2 rfl) ?_
    refine lv_iload_n hx hb dX3_take_43 rfl (lv_at hl 3 rfl) ?_
    refine lv_iadd hx hb dX3_take_44 ?_
    refine lv_iload hx hb dX3_take_45 (lv_at hl 4 rfl) ?_
    obtain ⟨u4, hu4, h⟩ := md_b h
    refine kV C (ctX3_held l  hu4) gX3_take_X3_held rfl kdvX3_held ⟨rfl, rfl⟩ ⟨by decide, by decide⟩ kW_blind (va_recv hK hP (ci := 1) (q0 := 0) rfl rfl) (kW_use hK (hP.sub (ws' := [(to, .inr (1, [.ref t_cells_a, .ref t_sixties_a, .int t_rows])), (t_cells_a, .inl (cI, 24, .inl t_cells)), (t_sixties_a, .inl (cI, 24, .inl t_sixties))]) [0, 1, 2] rfl) kL_no) rfl hl [] rfl (Nat.le_of_ble_eq_true rfl) dX3_take_47 ⟨by decide, by decide⟩ ?_
    obtain ⟨kJ69, ekJ69, h⟩ := md_jo h
    have KJ69 : ∀ (t_cells_69 : Nat → Int32) (t_sixties_69 : Nat → Int32), kJ69 t_cells_69 t_sixties_69 = some res → ∀ (H : Heap) (locs : List Loc), va_P D vwCl [(to, .inr (1, [.ref t_cells_a, .ref t_sixties_a, .int t_rows])), (t_cells_a, .inl (cI, 24, .inl t_cells_69)), (t_sixties_a, .inl (cI, 24, .inl t_sixties_69)), (uo, .inr (1, [.ref u_cells_a, .ref u_sixties_a, .int u_rows])), (u_cells_a, .inl (cI, 24, .inl u_cells)), (u_sixties_a, .inl (cI, 24, .inl u_sixties))] H → va_S (fun q => q ∈ ([to, t_cells_a, t_sixties_a, uo, u_cells_a, u_sixties_a] : List Nat)) s.heap H locs → ∀ (ls : Array Slot), lv_has ls 5 [(0, .ref to), (1, .ref uo), (2, .int x2), (3, .int x3), (4, .int x4)] → W p l e rmX3_take s m args below meth c H locs 0 0 Q (F0 m 69 ls []) := by
      intro t_cells_69 t_sixties_69 h H locs hP hS ls hl
      rw [ekJ69] at h
      obtain ⟨x4_5, ex4_5⟩ : ∃ y : Int32, y = (x4 + (1 : Int32)) := ⟨_, rfl⟩
      replace h := md_le ex4_5 h
      refine lv_iinc (v := x4_5) (lv' := [(4, .int x4_5), (0, .ref to), (1, .ref uo), (2, .int x2), (3, .int x3)]) hx hb dX3_take_69 hl (k := 4) rfl (by rw [ex4_5]; rfl) (by decide) rfl (fun ls hl => ?_)
      refine lv_goto (tgt := 35) hx hb dX3_take_72 (by decide) ?_
      exact ih x4_5 t_cells_69 t_sixties_69 h _ _ hP hS ls (lv_sub hl [1, 2, 3, 4, 0] rfl)
    clear ekJ69
    refine lv_if_ne (tgt := 69) hx hb dX3_take_50 (by decide) (fun c6 => ?_) (fun c6 => ?_)
    · replace h := md_f c6 h
      exact KJ69 t_cells t_sixties h _ _ hP hS ls (lv_sub hl [0, 1, 2, 3, 4] rfl)
    replace h := md_t c6 h
    refine lv_aload_n hx hb dX3_take_53 rfl (lv_at hl 0 rfl) ?_
    refine lv_iload_n hx hb dX3_take_54 rfl (lv_at hl 2 rfl) ?_
    refine lv_iload_n hx hb dX3_take_55 rfl (lv_at hl 3 rfl) ?_
    refine lv_iadd hx hb dX3_take_56 ?_
    refine lv_iload hx hb dX3_take_57 (lv_at hl 4 rfl) ?_
    refine lv_aload_n hx hb dX3_take_59 rfl (lv_at hl 1 rfl) ?_
    refine lv_iload_n hx hb dX3_take_60 rfl (lv_at hl 3 rfl) ?_
    refine lv_iload hx hb dX3_take_61 (lv_at hl 4 rfl) ?_
    obtain ⟨u7, hu7, h⟩ := md_b h
    refine kV C (ctX3_held l  hu7) gX3_take_X3_held rfl kdvX3_held ⟨rfl, rfl⟩ ⟨by decide, by decide⟩ kW_blind (va_recv hK hP (ci := 1) (q0 := 3) rfl rfl) (kW_use hK (hP.sub (ws' := [(uo, .inr (1, [.ref u_cells_a, .ref u_sixties_a, .int u_rows])), (u_cells_a, .inl (cI, 24, .inl u_cells)), (u_sixties_a, .inl (cI, 24, .inl u_sixties))]) [3, 4, 5] rfl) kL_no) rfl hl [.int x4, .int (x2 + x3), .ref to] rfl (Nat.le_of_ble_eq_true rfl) dX3_take_63 ⟨by decide, by decide⟩ ?_
    obtain ⟨u8, hu8, h⟩ := md_b h
    refine kVx C (ctX3_hold l (nd_sub hnd [0, 1, 2] (by decide) rfl) hu8) gX3_take_X3_hold rfl kdvX3_hold ⟨rfl, rfl⟩ ⟨by decide, by decide⟩ kW_blind (va_recv hK hP (ci := 1) (q0 := 0) rfl rfl) (kW_use hK (hP.sub (ws' := [(to, .inr (1, [.ref t_cells_a, .ref t_sixties_a, .int t_rows])), (t_cells_a, .inl (cI, 24, .inl t_cells)), (t_sixties_a, .inl (cI, 24, .inl t_sixties))]) [0, 1, 2] rfl) kL_no) rfl hl [] rfl (Nat.le_of_ble_eq_true rfl) dX3_take_66 ⟨by decide, by decide⟩ hS (mem_sub [0, 1, 2] rfl) (fun H1 locs hP1 hk1 hS => ?_)
    replace hP : va_P D vwCl [(to, .inr (1, [.ref t_cells_a, .ref t_sixties_a, .int t_rows])), (t_cells_a, .inl (cI, 24, .inl u8.1)), (t_sixties_a, .inl (cI, 24, .inl u8.2)), (uo, .inr (1, [.ref u_cells_a, .ref u_sixties_a, .int u_rows])), (u_cells_a, .inl (cI, 24, .inl u_cells)), (u_sixties_a, .inl (cI, 24, .inl u_sixties))] H1 := kjoin hnd rfl hP hP1 hk1 [0, 1, 2] rfl [(true, 0), (true, 1), (true, 2), (false, 3), (false, 4), (false, 5)] rfl rfl
    clear hP1 hk1
    generalize H1 = H at hP hS ⊢
    exact KJ69 u8.1 u8.2 h _ _ hP hS ls (lv_sub hl [0, 1, 2, 3, 4] rfl)
def mlX3_take_24 (x2 : Int32) (u_cells : Nat → Int32) (u_rows : Int32) (kE : (Nat → Int32) → (Nat → Int32) → Option ((Nat → Int32) × (Nat → Int32) × Int32)) : Nat → Int32 → (Nat → Int32) → (Nat → Int32) → Option ((Nat → Int32) × (Nat → Int32) × Int32)
  | 0, _, _, _ => none
  | n + 1, x3, t_cells, t_sixties => (if u_rows ≤ x3 then (kE t_cells t_sixties) else (mlX3_take_35 x2 x3 u_cells (fun (t_cells_75 : Nat → Int32) (t_sixties_75 : Nat → Int32) => (md_let (x3 + (1 : Int32)) (fun (x3_9 : Int32) => (mlX3_take_24 x2 u_cells u_rows kE n x3_9 t_cells_75 t_sixties_75)))) kN (0 : Int32) t_cells t_sixties))
set_option maxHeartbeats 4000000 in
set_option maxRecDepth 100000 in
theorem lX3_take_24 {p : Program} {l : Launch} {e : Env} {s : State} {m : MethodId} {args : Array Value} {below : List Frame} {meth : Method} {c : Code} {Q : State → Prop} (C : kc p s m args meth c cX3_take 5 RX3 yX3_take.name wsX3_take none) {D : va_G} {cI cT : ClassId} {to t_cells_a t_sixties_a uo u_cells_a u_sixties_a : Nat} (hK : va_K D vwCl (kTy cI cT) s) (hnd : ([to, t_cells_a, t_sixties_a, uo, u_cells_a, u_sixties_a] : List Nat).Nodup) (x2 : Int32) (t_rows : Int32) (u_cells : Nat → Int32) (u_sixties : Nat → Int32) (u_rows : Int32) (res : ((Nat → Int32) × (Nat → Int32) × Int32)) (hQ : ∀ (t_cells : Nat → Int32) (t_sixties : Nat → Int32) (t_rows : Int32) (H : Heap) (locs : List Loc) (pc : Nat) (ls : Array Slot), some (t_cells, t_sixties, t_rows) = some res → va_P D vwCl [(to, .inr (1, [.ref t_cells_a, .ref t_sixties_a, .int t_rows])), (t_cells_a, .inl (cI, 24, .inl t_cells)), (t_sixties_a, .inl (cI, 24, .inl t_sixties)), (uo, .inr (1, [.ref u_cells_a, .ref u_sixties_a, .int u_rows])), (u_cells_a, .inl (cI, 24, .inl u_cells)), (u_sixties_a, .inl (cI, 24, .inl u_sixties))] H → va_S (fun q => q ∈ ([to, t_cells_a, t_sixties_a, uo, u_cells_a, u_sixties_a] : List Nat)) s.heap H locs → decode cX3_take pc = .ok (.return_, 1) → W p l e rmX3_take s m args below meth c H locs 0 0 Q (F0 m pc ls [])) (kE : (Nat → Int32) → (Nat → Int32) → Option ((Nat → Int32) × (Nat → Int32) × Int32)) (hE : ∀ (t_cells : Nat → Int32) (t_sixties : Nat → Int32), kE t_cells t_sixties = some res → ∀ (H : Heap) (locs : List Loc), va_P D vwCl [(to, .inr (1, [.ref t_cells_a, .ref t_sixties_a, .int t_rows])), (t_cells_a, .inl (cI, 24, .inl t_cells)), (t_sixties_a, .inl (cI, 24, .inl t_sixties)), (uo, .inr (1, [.ref u_cells_a, .ref u_sixties_a, .int u_rows])), (u_cells_a, .inl (cI, 24, .inl u_cells)), (u_sixties_a, .inl (cI, 24, .inl u_sixties))] H → va_S (fun q => q ∈ ([to, t_cells_a, t_sixties_a, uo, u_cells_a, u_sixties_a] : List Nat)) s.heap H locs → ∀ (ls : Array Slot), lv_has ls 5 [] → W p l e rmX3_take s m args below meth c H locs 0 0 Q (F0 m 81 ls [])) : ∀ (n : Nat), ∀ (x3 : Int32) (t_cells : Nat → Int32) (t_sixties : Nat → Int32), mlX3_take_24 x2 u_cells u_rows kE n x3 t_cells t_sixties = some res → ∀ (H : Heap) (locs : List Loc), va_P D vwCl [(to, .inr (1, [.ref t_cells_a, .ref t_sixties_a, .int t_rows])), (t_cells_a, .inl (cI, 24, .inl t_cells)), (t_sixties_a, .inl (cI, 24, .inl t_sixties)), (uo, .inr (1, [.ref u_cells_a, .ref u_sixties_a, .int u_rows])), (u_cells_a, .inl (cI, 24, .inl u_cells)), (u_sixties_a, .inl (cI, 24, .inl u_sixties))] H → va_S (fun q => q ∈ ([to, t_cells_a, t_sixties_a, uo, u_cells_a, u_sixties_a] : List Nat)) s.heap H locs → ∀ (ls : Array Slot), lv_has ls 5 [(0, .ref to), (1, .ref uo), (2, .int x2), (3, .int x3)] → W p l e rmX3_take s m args below meth c H locs 0 0 Q (F0 m 24 ls []) := by
  have C0 := C
  obtain ⟨hx, hb, hml, hown, hts, hr, hlk, hnm⟩ := C0
  intro n
  induction n with
  | zero => intro _ _ _ h; exact md_x h
  | succ n ih =>
    intro x3 t_cells t_sixties h H locs hP hS ls hl
    rw [mlX3_take_24] at h
    refine lv_iload_n hx hb dX3_take_24 rfl (lv_at hl 3 rfl) ?_
    refine lv_aload_n hx hb dX3_take_25 rfl (lv_at hl 1 rfl) ?_
    refine va_get (D := D) (ci := 1) (v := .int u_rows) (C := RX3) (T := TX3) (N := 3) hx hb hts wi_X3_take_X3 hown hK hP 3 rfl rfl 2 (by decide) (hts _ wm_X3_take_0) (fun _ h9 => h9) rfl dX3_take_26 ?_
    refine lv_icmp_ge (tgt := 81) hx hb dX3_take_29 (by decide) (fun c2 => ?_) (fun c2 => ?_)
    · replace h := md_t c2 h
      exact hE t_cells t_sixties h _ _ hP hS ls (lv_sub hl [] rfl)
    replace h := md_f c2 h
    refine lv_iconst (v := 0) hx hb dX3_take_32 (by decide) ?_
    refine lv_istore (lv' := [(4, .int (0 : Int32)), (0, .ref to), (1, .ref uo), (2, .int x2), (3, .int x3)]) hx hb dX3_take_33 hl (by decide) rfl (fun ls hl => ?_)
    refine lX3_take_35 (to := to) (t_cells_a := t_cells_a) (t_sixties_a := t_sixties_a) (uo := uo) (u_cells_a := u_cells_a) (u_sixties_a := u_sixties_a) C hK hnd x2 x3 t_rows u_cells u_sixties u_rows res hQ _ (fun t_cells_75 t_sixties_75 h H locs hP hS ls hl => ?_) kN (0 : Int32) t_cells t_sixties h _ _ hP hS ls (lv_sub hl [1, 2, 3, 4, 0] rfl)
    obtain ⟨x3_9, ex3_9⟩ : ∃ y : Int32, y = (x3 + (1 : Int32)) := ⟨_, rfl⟩
    replace h := md_le ex3_9 h
    refine lv_iinc (v := x3_9) (lv' := [(3, .int x3_9), (0, .ref to), (1, .ref uo), (2, .int x2)]) hx hb dX3_take_75 hl (k := 3) rfl (by rw [ex3_9]; rfl) (by decide) rfl (fun ls hl => ?_)
    refine lv_goto (tgt := 24) hx hb dX3_take_78 (by decide) ?_
    exact ih x3_9 t_cells_75 t_sixties_75 h _ _ hP hS ls (lv_sub hl [1, 2, 3, 0] rfl)
def mX3_take (t_cells : Nat → Int32) (t_sixties : Nat → Int32) (t_rows : Int32) (u_cells : Nat → Int32) (u_rows : Int32) (p2 : Int32) : Option ((Nat → Int32) × (Nat → Int32) × Int32) := (md_let (if (if t_rows < (p2 + u_rows) then (p2 + u_rows) else t_rows) < (8 : Int32) then (if t_rows < (p2 + u_rows) then (p2 + u_rows) else t_rows) else (8 : Int32)) (fun (f_1 : Int32) => (mlX3_take_24 p2 u_cells u_rows (fun (t_cells_81 : Nat → Int32) (t_sixties_81 : Nat → Int32) => (some (t_cells_81, t_sixties_81, f_1))) kN (0 : Int32) t_cells t_sixties)))
set_option maxHeartbeats 4000000 in
set_option maxRecDepth 100000 in
theorem bX3_take {p : Program} {l : Launch} {e : Env} {s : State} {m : MethodId} {args : Array Value} {below : List Frame} {meth : Method} {c : Code} {Q : State → Prop} (C : kc p s m args meth c cX3_take 5 RX3 yX3_take.name wsX3_take none) {D : va_G} {cI cT : ClassId} {to t_cells_a t_sixties_a uo u_cells_a u_sixties_a : Nat} (p2 : Int32) (hK : va_K D vwCl (kTy cI cT) s) (hnd : ([to, t_cells_a, t_sixties_a, uo, u_cells_a, u_sixties_a] : List Nat).Nodup) (t_cells : Nat → Int32) (t_sixties : Nat → Int32) (t_rows : Int32) (u_cells : Nat → Int32) (u_sixties : Nat → Int32) (u_rows : Int32) (res : ((Nat → Int32) × (Nat → Int32) × Int32)) (hQ : ∀ (t_cells : Nat → Int32) (t_sixties : Nat → Int32) (t_rows : Int32) (H : Heap) (locs : List Loc) (pc : Nat) (ls : Array Slot), some (t_cells, t_sixties, t_rows) = some res → va_P D vwCl [(to, .inr (1, [.ref t_cells_a, .ref t_sixties_a, .int t_rows])), (t_cells_a, .inl (cI, 24, .inl t_cells)), (t_sixties_a, .inl (cI, 24, .inl t_sixties)), (uo, .inr (1, [.ref u_cells_a, .ref u_sixties_a, .int u_rows])), (u_cells_a, .inl (cI, 24, .inl u_cells)), (u_sixties_a, .inl (cI, 24, .inl u_sixties))] H → va_S (fun q => q ∈ ([to, t_cells_a, t_sixties_a, uo, u_cells_a, u_sixties_a] : List Nat)) s.heap H locs → decode cX3_take pc = .ok (.return_, 1) → W p l e rmX3_take s m args below meth c H locs 0 0 Q (F0 m pc ls [])) : mX3_take t_cells t_sixties t_rows u_cells u_rows p2 = some res → ∀ (H : Heap) (locs : List Loc), va_P D vwCl [(to, .inr (1, [.ref t_cells_a, .ref t_sixties_a, .int t_rows])), (t_cells_a, .inl (cI, 24, .inl t_cells)), (t_sixties_a, .inl (cI, 24, .inl t_sixties)), (uo, .inr (1, [.ref u_cells_a, .ref u_sixties_a, .int u_rows])), (u_cells_a, .inl (cI, 24, .inl u_cells)), (u_sixties_a, .inl (cI, 24, .inl u_sixties))] H → va_S (fun q => q ∈ ([to, t_cells_a, t_sixties_a, uo, u_cells_a, u_sixties_a] : List Nat)) s.heap H locs → ∀ (ls : Array Slot), lv_has ls 5 [(0, .ref to), (1, .ref uo), (2, .int p2)] → W p l e rmX3_take s m args below meth c H locs 0 0 Q (F0 m 0 ls []) := by
  intro h H locs hP hS ls hl
  have C0 := C
  obtain ⟨hx, hb, hml, hown, hts, hr, hlk, hnm⟩ := C0
  rw [mX3_take] at h
  refine lv_aload_n hx hb dX3_take_0 rfl (lv_at hl 0 rfl) ?_
  refine lv_bipush (v := 8) hx hb dX3_take_1 (by decide) ?_
  refine lv_aload_n hx hb dX3_take_3 rfl (lv_at hl 0 rfl) ?_
  refine va_get (D := D) (ci := 1) (v := .int t_rows) (C := RX3) (T := TX3) (N := 3) hx hb hts wi_X3_take_X3 hown hK hP 0 rfl rfl 2 (by decide) (hts _ wm_X3_take_0) (fun _ h9 => h9) rfl dX3_take_4 ?_
  refine lv_iload_n hx hb dX3_take_7 rfl (lv_at hl 2 rfl) ?_
  refine lv_aload_n hx hb dX3_take_8 rfl (lv_at hl 1 rfl) ?_
  refine va_get (D := D) (ci := 1) (v := .int u_rows) (C := RX3) (T := TX3) (N := 3) hx hb hts wi_X3_take_X3 hown hK hP 3 rfl rfl 2 (by decide) (hts _ wm_X3_take_0) (fun _ h9 => h9) rfl dX3_take_9 ?_
  refine lv_iadd hx hb dX3_take_12 ?_
  refine va_mmax hx hb (hml.trans hl.1.symm) hown (hts _ wm_X3_take_1) (hts _ wm_X3_take_2) (hts _ wm_X3_take_3) (hts _ wm_X3_take_4) (by decide) (Nat.le_of_ble_eq_true rfl) (by decide) (by decide) dX3_take_13 ?_
  refine va_mmin hx hb (hml.trans hl.1.symm) hown (hts _ wm_X3_take_5) (hts _ wm_X3_take_6) (hts _ wm_X3_take_3) (hts _ wm_X3_take_7) (by decide) (Nat.le_of_ble_eq_true rfl) (by decide) (by decide) dX3_take_16 ?_
  refine lv_topi (fun f_1 ef_1 => ?_)
  replace h := md_le ef_1 h
  refine va_put (D := D) (ci := 1) (v := .int f_1) (ty := .int) (C := RX3) (T := TX3) (N := 3) hx hb hts wi_X3_take_X3 tyX3 tyX3_ok nmX3 hown hK hP (kD hnd rfl) hS 0 rfl rfl 2 (by decide) (hts _ wm_X3_take_0) (fun _ h9 => h9) rfl (by decide +kernel) rfl rfl (Nat.le_of_ble_eq_true rfl) dX3_take_19 (fun H locs hP _ hS => ?_)
  have hP : va_P D vwCl [(to, .inr (1, [.ref t_cells_a, .ref t_sixties_a, .int f_1])), (t_cells_a, .inl (cI, 24, .inl t_cells)), (t_sixties_a, .inl (cI, 24, .inl t_sixties)), (uo, .inr (1, [.ref u_cells_a, .ref u_sixties_a, .int u_rows])), (u_cells_a, .inl (cI, 24, .inl u_cells)), (u_sixties_a, .inl (cI, 24, .inl u_sixties))] H := hP
  refine lv_iconst (v := 0) hx hb dX3_take_22 (by decide) ?_
  refine lv_istore_n (lv' := [(3, .int (0 : Int32)), (0, .ref to), (1, .ref uo), (2, .int p2)]) hx hb dX3_take_23 rfl hl (by decide) rfl (fun ls hl => ?_)
  refine lX3_take_24 (to := to) (t_cells_a := t_cells_a) (t_sixties_a := t_sixties_a) (uo := uo) (u_cells_a := u_cells_a) (u_sixties_a := u_sixties_a) C hK hnd p2 f_1 u_cells u_sixties u_rows res hQ _ (fun t_cells_81 t_sixties_81 h H locs hP hS ls hl => ?_) kN (0 : Int32) t_cells t_sixties h _ _ hP hS ls (lv_sub hl [1, 2, 3, 0] rfl)
  exact hQ t_cells_81 t_sixties_81 f_1 H locs 81 ls h hP hS dX3_take_81
set_option maxHeartbeats 4000000 in
theorem ctX3_take (l : Launch) {D : va_G} {cI cT : ClassId} {to t_cells_a t_sixties_a uo u_cells_a u_sixties_a : Nat} {t_cells : Nat → Int32} {t_sixties : Nat → Int32} {t_rows : Int32} {u_cells : Nat → Int32} {u_sixties : Nat → Int32} {u_rows : Int32} {p2 : Int32} {res : ((Nat → Int32) × (Nat → Int32) × Int32)} (hnd : ([to, t_cells_a, t_sixties_a, uo, u_cells_a, u_sixties_a] : List Nat).Nodup) (hm : mX3_take t_cells t_sixties t_rows u_cells u_rows p2 = some res) : Met l yX3_take wsX3_take rmX3_take (va_Pc [.ref to, .ref uo, .int p2] (kW D cI cT [(to, .inr (1, [.ref t_cells_a, .ref t_sixties_a, .int t_rows])), (t_cells_a, .inl (cI, 24, .inl t_cells)), (t_sixties_a, .inl (cI, 24, .inl t_sixties)), (uo, .inr (1, [.ref u_cells_a, .ref u_sixties_a, .int u_rows])), (u_cells_a, .inl (cI, 24, .inl u_cells)), (u_sixties_a, .inl (cI, 24, .inl u_sixties))] none (fun q => q ∈ ([to, t_cells_a, t_sixties_a, uo, u_cells_a, u_sixties_a] : List Nat)))) (kX none D [(to, .inr (1, [.ref t_cells_a, .ref t_sixties_a, .int res.2.2])), (t_cells_a, .inl (cI, 24, .inl res.1)), (t_sixties_a, .inl (cI, 24, .inl res.2.1)), (uo, .inr (1, [.ref u_cells_a, .ref u_sixties_a, .int u_rows])), (u_cells_a, .inl (cI, 24, .inl u_cells)), (u_sixties_a, .inl (cI, 24, .inl u_sixties))] (fun q => q ∈ ([to, t_cells_a, t_sixties_a, uo, u_cells_a, u_sixties_a] : List Nat))) 0 0 (fun q => q ∈ ([to, t_cells_a, t_sixties_a, uo, u_cells_a, u_sixties_a] : List Nat)) :=
  km (by decide) rfl (Nat.le_of_ble_eq_true rfl) (fun p e s m below meth c ls C hB hl => bX3_take C p2 hB.1 hnd t_cells t_sixties t_rows u_cells u_sixties u_rows res (fun t_cells1 t_sixties1 t_rows1 H locs pc ls h hP hS hd => by obtain rfl := Option.some.inj h; exact kx_v C hP hS hd) hm s.heap [] hB.2.1 va_S.rf ls hl)
