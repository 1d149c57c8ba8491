theorem wm_X7_times__0 : Cond.fieldLink RX7 122 "SixtyTabletModel" "isWorked" "Z" ∈ wsX7_times_ := by decide +kernel
theorem wm_X7_times__1 : Cond.fieldLink RX7 126 "SixtyTabletModel" "lines" "I" ∈ wsX7_times_ := by decide +kernel
theorem wm_X7_times__2 : Cond.fieldLink RX7 16 "SixtyTabletModel" "ofX" "[I" ∈ wsX7_times_ := by decide +kernel
theorem wm_X7_times__3 : Cond.fieldLink RX7 19 "SixtyTabletModel" "ofY" "[I" ∈ wsX7_times_ := by decide +kernel
theorem wm_X7_times__4 : Cond.fieldLink RX7 7 "SixtyTabletModel" "product" "[I" ∈ wsX7_times_ := by decide +kernel
theorem wm_X7_times__5 : Cond.fieldLink RX7 13 "SixtyTabletModel" "place" "[I" ∈ wsX7_times_ := by decide +kernel
theorem wi_X7_times__X7 : ∀ w ∈ wsX70, w ∈ wsX7_times_ := by decide +kernel
theorem kdvX7_times_ : yX7_times_.cls = RX7 ∧ yX7_times_.cls ≠ "java/lang/invoke/MethodHandle" ∧ yX7_times_.cls ≠ "java/lang/invoke/VarHandle" ∧ (parseMethodDescriptor yX7_times_.desc).map (fun d => d.parameters.length) = some 2 := by decide +kernel
abbrev rmX7_times_ : Room := { frames := 2, cells := 0, slots := 0, locals := 46 }
def mlX7_times__38 (x1 : Int64) (x3 : Int64) (x5 : Int32) (kE : Int32 → (Nat → Int32) → (Nat → Int32) → (Nat → Int32) → (Nat → Int32) → Option (Int32 × Int32 × Int32 × (Nat → Int32) × (Nat → Int32) × (Nat → Int32) × (Nat → Int32))) : Nat → Int32 → Int32 → (Nat → Int32) → (Nat → Int32) → (Nat → Int32) → (Nat → Int32) → Option (Int32 × Int32 × Int32 × (Nat → Int32) × (Nat → Int32) × (Nat → Int32) × (Nat → Int32))
  | 0, _, _, _, _, _, _ => none
  | n + 1, x6, m_lines, m_product, m_place, m_ofX, m_ofY => (if x6 < 0 then (kE m_lines m_product m_place m_ofX m_ofY) else (Option.bind (mX7_digitAt x1 x5) (fun u7 => (Option.bind (mX7_digitAt x3 x6) (fun u8 => (md_jn (fun (m_lines_129 : Int32) (m_product_129 : Nat → Int32) (m_place_129 : Nat → Int32) (m_ofX_129 : Nat → Int32) (m_ofY_129 : Nat → Int32) => (md_let (x6 + (-1 : Int32)) (fun (x6_9 : Int32) => (mlX7_times__38 x1 x3 x5 kE n x6_9 m_lines_129 m_product_129 m_place_129 m_ofX_129 m_ofY_129)))) (fun kJ129 => (if u7 ≤ 0 then (kJ129 m_lines m_product m_place m_ofX m_ofY) else (if u8 ≤ 0 then (kJ129 m_lines m_product m_place m_ofX m_ofY) else (if m_lines < 0 ∨ 16 ≤ (Int32.toNatClampNeg m_lines) then none else (md_let (upd m_ofX (Int32.toNatClampNeg m_lines) u7) (fun (m_ofX_12 : Nat → Int32) => (if m_lines < 0 ∨ 16 ≤ (Int32.toNatClampNeg m_lines) then none else (md_let (upd m_ofY (Int32.toNatClampNeg m_lines) u8) (fun (m_ofY_13 : Nat → Int32) => (if m_lines < 0 ∨ 16 ≤ (Int32.toNatClampNeg m_lines) then none else (md_let (upd m_product (Int32.toNatClampNeg m_lines) (u7 * u8)) (fun (m_product_14 : Nat → Int32) => (if m_lines < 0 ∨ 16 ≤ (Int32.toNatClampNeg m_lines) then none else (md_let (upd m_place (Int32.toNatClampNeg m_lines) (x5 + x6)) (fun (m_place_15 : Nat → Int32) => (md_let (m_lines + (1 : Int32)) (fun (f_16 : Int32) => (kJ129 f_16 m_product_14 m_place_15 m_ofX_12 m_ofY_13))))))))))))))))))))))))
set_option maxHeartbeats 4000000 in
set_option maxRecDepth 100000 in
theorem lX7_times__38 {p : Program} {l : Launch} {e : Env} {s : State} {m : MethodId} {args : Array Value} {below : List Frame} {meth : Method} {c : Code} {Q : State → Prop} (C : kc p s m args meth c cX7_times_ 9 RX7 yX7_times_.name wsX7_times_ (some .int)) {D : va_G} {cI cT : ClassId} {mo m_product_a m_place_a m_ofX_a m_ofY_a m_step_a m_rows_a m_cell_a m_overs_a m_sure_a : Nat} (hK : va_K D vwCl (kTy cI cT) s) (hnd : ([mo, m_product_a, m_place_a, m_ofX_a, m_ofY_a, m_step_a, m_rows_a, m_cell_a, m_overs_a, m_sure_a] : List Nat).Nodup) (x1 : Int64) (x3 : Int64) (x5 : Int32) (m_isWorked : Int32) (m_steps : Int32) (m_step : Nat → Int32) (m_rows : Nat → Int32) (m_cell : Nat → Int32) (m_overs : Nat → Int32) (m_sure : Nat → Int32) (res : (Int32 × Int32 × Int32 × (Nat → Int32) × (Nat → Int32) × (Nat → Int32) × (Nat → Int32))) (hQ : ∀ (v : Int32) (m_isWorked : Int32) (m_lines : Int32) (m_product : Nat → Int32) (m_place : Nat → Int32) (m_ofX : Nat → Int32) (m_ofY : Nat → Int32) (H : Heap) (locs : List Loc) (pc : Nat) (ls : Array Slot), some (v, m_isWorked, m_lines, m_product, m_place, m_ofX, m_ofY) = some res → va_P D vwCl [(mo, .inr (4, [.int m_isWorked, .int m_lines, .ref m_product_a, .ref m_place_a, .ref m_ofX_a, .ref m_ofY_a, .int m_steps, .ref m_step_a, .ref m_rows_a, .ref m_cell_a, .ref m_overs_a, .ref m_sure_a])), (m_product_a, .inl (cI, 16, .inl m_product)), (m_place_a, .inl (cI, 16, .inl m_place)), (m_ofX_a, .inl (cI, 16, .inl m_ofX)), (m_ofY_a, .inl (cI, 16, .inl m_ofY)), (m_step_a, .inl (cI, 5, .inl m_step)), (m_rows_a, .inl (cI, 4, .inl m_rows)), (m_cell_a, .inl (cI, 96, .inl m_cell)), (m_overs_a, .inl (cI, 29, .inl m_overs)), (m_sure_a, .inl (cI, 24, .inl m_sure))] H → va_S (fun q => q ∈ ([mo, m_product_a, m_place_a, m_ofX_a, m_ofY_a, m_step_a, m_rows_a, m_cell_a, m_overs_a, m_sure_a] : List Nat)) s.heap H locs → decode cX7_times_ pc = .ok (.ireturn, 1) → W p l e rmX7_times_ s m args below meth c H locs 0 0 Q (F0 m pc ls [.int v])) (kE : Int32 → (Nat → Int32) → (Nat → Int32) → (Nat → Int32) → (Nat → Int32) → Option (Int32 × Int32 × Int32 × (Nat → Int32) × (Nat → Int32) × (Nat → Int32) × (Nat → Int32))) (hE : ∀ (m_lines : Int32) (m_product : Nat → Int32) (m_place : Nat → Int32) (m_ofX : Nat → Int32) (m_ofY : Nat → Int32), kE m_lines m_product m_place m_ofX m_ofY = some res → ∀ (H : Heap) (locs : List Loc), va_P D vwCl [(mo, .inr (4, [.int m_isWorked, .int m_lines, .ref m_product_a, .ref m_place_a, .ref m_ofX_a, .ref m_ofY_a, .int m_steps, .ref m_step_a, .ref m_rows_a, .ref m_cell_a, .ref m_overs_a, .ref m_sure_a])), (m_product_a, .inl (cI, 16, .inl m_product)), (m_place_a, .inl (cI, 16, .inl m_place)), (m_ofX_a, .inl (cI, 16, .inl m_ofX)), (m_ofY_a, .inl (cI, 16, .inl m_ofY)), (m_step_a, .inl (cI, 5, .inl m_step)), (m_rows_a, .inl (cI, 4, .inl m_rows)), (m_cell_a, .inl (cI, 96, .inl m_cell)), (m_overs_a, .inl (cI, 29, .inl m_overs)), (m_sure_a, .inl (cI, 24, .inl m_sure))] H → va_S (fun q => q ∈ ([mo, m_product_a, m_place_a, m_ofX_a, m_ofY_a, m_step_a, m_rows_a, m_cell_a, m_overs_a, m_sure_a] : List Nat)) s.heap H locs → ∀ (ls : Array Slot), lv_has ls 9 [(0, .ref mo), (1, .long x1), (3, .long x3), (5, .int x5)] → W p l e rmX7_times_ s m args below meth c H locs 0 0 Q (F0 m 135 ls [])) : ∀ (n : Nat), ∀ (x6 : Int32) (m_lines : Int32) (m_product : Nat → Int32) (m_place : Nat → Int32) (m_ofX : Nat → Int32) (m_ofY : Nat → Int32), mlX7_times__38 x1 x3 x5 kE n x6 m_lines m_product m_place m_ofX m_ofY = some res → ∀ (H : Heap) (locs : List Loc), va_P D vwCl [(mo, .inr (4, [.int m_isWorked, .int m_lines, .ref m_product_a, .ref m_place_a, .ref m_ofX_a, .ref m_ofY_a, .int m_steps, .ref m_step_a, .ref m_rows_a, .ref m_cell_a, .ref m_overs_a, .ref m_sure_a])), (m_product_a, .inl (cI, 16, .inl m_product)), (m_place_a, .inl (cI, 16, .inl m_place)), (m_ofX_a, .inl (cI, 16, .inl m_ofX)), (m_ofY_a, .inl (cI, 16, .inl m_ofY)), (m_step_a, .inl (cI, 5, .inl m_step)), (m_rows_a, .inl (cI, 4, .inl m_rows)), (m_cell_a, .inl (cI, 96, .inl m_cell)), (m_overs_a, .inl (cI, 29, .inl m_overs)), (m_sure_a, .inl (cI, 24, .inl m_sure))] H → va_S (fun q => q ∈ ([mo, m_product_a, m_place_a, m_ofX_a, m_ofY_a, m_step_a, m_rows_a, m_cell_a, m_overs_a, m_sure_a] : List Nat)) s.heap H locs → ∀ (ls : Array Slot), lv_has ls 9 [(0, .ref mo), (1, .long x1), (3, .long x3), (5, .int x5), (6, .int x6)] → W p l e rmX7_times_ s m args below meth c H locs 0 0 Q (F0 m 38 ls []) := by
  have C0 := C
  obtain ⟨hx, hb, hml, hown, hts, hr, hlk, hnm⟩ := C0
  intro n
  induction n with
  | zero => intro _ _ _ _ _ _ h; exact md_x h
  | succ n ih =>
    intro x6 m_lines m_product m_place m_ofX m_ofY h H locs hP hS ls hl
    rw [mlX7_times__38] at h
    refine lv_iload hx hb dX7_times__38 (lv_at hl 4 rfl) ?_
    refine lv_if_lt (tgt := 135) hx hb dX7_times__40 (by decide) (fun c6 => ?_) (fun c6 => ?_)
    · replace h := md_t c6 h
      exact hE m_lines m_product m_place m_ofX m_ofY h _ _ hP hS ls (lv_sub hl [0, 1, 2, 3] rfl)
    replace h := md_f c6 h
    refine lv_lload_n hx hb dX7_times__43 rfl (lv_at hl 1 rfl) ?_
    refine lv_iload hx hb dX7_times__44 (lv_at hl 3 rfl) ?_
    obtain ⟨u7, hu7, h⟩ := md_b h
    refine kS C (ctX7_digitAt l  hu7) gX7_times__X7_digitAt rfl kdX7_digitAt ⟨rfl, rfl⟩ ⟨by decide, by decide⟩ kT_blind (fun _ _ _ => trivial) rfl hl [] rfl (Nat.le_of_ble_eq_true rfl) dX7_times__46 ⟨by decide, by decide⟩ ?_
    refine lv_istore (lv' := [(7, .int u7), (0, .ref mo), (1, .long x1), (3, .long x3), (5, .int x5), (6, .int x6)]) hx hb dX7_times__49 hl (by decide) rfl (fun ls hl => ?_)
    refine lv_lload_n hx hb dX7_times__51 rfl (lv_at hl 3 rfl) ?_
    refine lv_iload hx hb dX7_times__52 (lv_at hl 5 rfl) ?_
    obtain ⟨u8, hu8, h⟩ := md_b h
    refine kS C (ctX7_digitAt l  hu8) gX7_times__X7_digitAt rfl kdX7_digitAt ⟨rfl, rfl⟩ ⟨by decide, by decide⟩ kT_blind (fun _ _ _ => trivial) rfl hl [] rfl (Nat.le_of_ble_eq_true rfl) dX7_times__54 ⟨by decide, by decide⟩ ?_
    refine lv_istore (lv' := [(8, .int u8), (7, .int u7), (0, .ref mo), (1, .long x1), (3, .long x3), (5, .int x5), (6, .int x6)]) hx hb dX7_times__57 hl (by decide) rfl (fun ls hl => ?_)
    refine lv_iload hx hb dX7_times__59 (lv_at hl 1 rfl) ?_
    obtain ⟨kJ129, ekJ129, h⟩ := md_jo h
    have KJ129 : ∀ (m_lines_129 : Int32) (m_product_129 : Nat → Int32) (m_place_129 : Nat → Int32) (m_ofX_129 : Nat → Int32) (m_ofY_129 : Nat → Int32), kJ129 m_lines_129 m_product_129 m_place_129 m_ofX_129 m_ofY_129 = some res → ∀ (H : Heap) (locs : List Loc), va_P D vwCl [(mo, .inr (4, [.int m_isWorked, .int m_lines_129, .ref m_product_a, .ref m_place_a, .ref m_ofX_a, .ref m_ofY_a, .int m_steps, .ref m_step_a, .ref m_rows_a, .ref m_cell_a, .ref m_overs_a, .ref m_sure_a])), (m_product_a, .inl (cI, 16, .inl m_product_129)), (m_place_a, .inl (cI, 16, .inl m_place_129)), (m_ofX_a, .inl (cI, 16, .inl m_ofX_129)), (m_ofY_a, .inl (cI, 16, .inl m_ofY_129)), (m_step_a, .inl (cI, 5, .inl m_step)), (m_rows_a, .inl (cI, 4, .inl m_rows)), (m_cell_a, .inl (cI, 96, .inl m_cell)), (m_overs_a, .inl (cI, 29, .inl m_overs)), (m_sure_a, .inl (cI, 24, .inl m_sure))] H → va_S (fun q => q ∈ ([mo, m_product_a, m_place_a, m_ofX_a, m_ofY_a, m_step_a, m_rows_a, m_cell_a, m_overs_a, m_sure_a] : List Nat)) s.heap H locs → ∀ (ls : Array Slot), lv_has ls 9 [(0, .ref mo), (1, .long x1), (3, .long x3), (5, .int x5), (6, .int x6)] → W p l e rmX7_times_ s m args below meth c H locs 0 0 Q (F0 m 129 ls []) := by
      intro m_lines_129 m_product_129 m_place_129 m_ofX_129 m_ofY_129 h H locs hP hS ls hl
      rw [ekJ129] at h
      obtain ⟨x6_9, ex6_9⟩ : ∃ y : Int32, y = (x6 + (-1 : Int32)) := ⟨_, rfl⟩
      replace h := md_le ex6_9 h
      refine lv_iinc (v := x6_9) (lv' := [(6, .int x6_9), (0, .ref mo), (1, .long x1), (3, .long x3), (5, .int x5)]) hx hb dX7_times__129 hl (k := 4) rfl (by rw [ex6_9]; rfl) (by decide) rfl (fun ls hl => ?_)
      refine lv_goto (tgt := 38) hx hb dX7_times__132 (by decide) ?_
      exact ih x6_9 m_lines_129 m_product_129 m_place_129 m_ofX_129 m_ofY_129 h _ _ hP hS ls (lv_sub hl [1, 2, 3, 4, 0] rfl)
    clear ekJ129
    refine lv_if_le (tgt := 129) hx hb dX7_times__61 (by decide) (fun c10 => ?_) (fun c10 => ?_)
    · replace h := md_t c10 h
      exact KJ129 m_lines m_product m_place m_ofX m_ofY h _ _ hP hS ls (lv_sub hl [2, 3, 4, 5, 6] rfl)
    replace h := md_f c10 h
    refine lv_iload hx hb dX7_times__64 (lv_at hl 0 rfl) ?_
    refine lv_if_le (tgt := 129) hx hb dX7_times__66 (by decide) (fun c11 => ?_) (fun c11 => ?_)
    · replace h := md_t c11 h
      exact KJ129 m_lines m_product m_place m_ofX m_ofY h _ _ hP hS ls (lv_sub hl [2, 3, 4, 5, 6] rfl)
    replace h := md_f c11 h
    refine lv_aload_n hx hb dX7_times__69 rfl (lv_at hl 2 rfl) ?_
    refine va_get (D := D) (ci := 4) (v := .ref m_ofX_a) (C := RX7) (T := TX7) (N := 12) hx hb hts wi_X7_times__X7 hown hK hP 0 rfl rfl 4 (by decide) (hts _ wm_X7_times__2) (fun _ h9 => h9) rfl dX7_times__70 ?_
    refine lv_aload_n hx hb dX7_times__73 rfl (lv_at hl 2 rfl) ?_
    refine va_get (D := D) (ci := 4) (v := .int m_lines) (C := RX7) (T := TX7) (N := 12) hx hb hts wi_X7_times__X7 hown hK hP 0 rfl rfl 1 (by decide) (hts _ wm_X7_times__1) (fun _ h9 => h9) rfl dX7_times__74 ?_
    refine lv_iload hx hb dX7_times__77 (lv_at hl 1 rfl) ?_
    obtain ⟨hin12, h⟩ := md_g h
    refine va_iast hx hb hK hP (kD hnd rfl) hS 3 0 rfl rfl hin12 dX7_times__79 (fun H locs hP _ hS => ?_)
    have hP : va_P D vwCl [(mo, .inr (4, [.int m_isWorked, .int m_lines, .ref m_product_a, .ref m_place_a, .ref m_ofX_a, .ref m_ofY_a, .int m_steps, .ref m_step_a, .ref m_rows_a, .ref m_cell_a, .ref m_overs_a, .ref m_sure_a])), (m_product_a, .inl (cI, 16, .inl m_product)), (m_place_a, .inl (cI, 16, .inl m_place)), (m_ofX_a, .inl (cI, 16, .inl (upd m_ofX (Int32.toNatClampNeg m_lines) u7))), (m_ofY_a, .inl (cI, 16, .inl m_ofY)), (m_step_a, .inl (cI, 5, .inl m_step)), (m_rows_a, .inl (cI, 4, .inl m_rows)), (m_cell_a, .inl (cI, 96, .inl m_cell)), (m_overs_a, .inl (cI, 29, .inl m_overs)), (m_sure_a, .inl (cI, 24, .inl m_sure))] H := hP
    obtain ⟨m_ofX_12, em_ofX_12⟩ : ∃ y : Nat → Int32, y = (upd m_ofX (Int32.toNatClampNeg m_lines) u7) := ⟨_, rfl⟩
    replace h := md_le em_ofX_12 h
    rw [← em_ofX_12] at hP
    refine lv_aload_n hx hb dX7_times__80 rfl (lv_at hl 2 rfl) ?_
    refine va_get (D := D) (ci := 4) (v := .ref m_ofY_a) (C := RX7) (T := TX7) (N := 12) hx hb hts wi_X7_times__X7 hown hK hP 0 rfl rfl 5 (by decide) (hts _ wm_X7_times__3) (fun _ h9 => h9) rfl dX7_times__81 ?_
    refine lv_aload_n hx hb dX7_times__84 rfl (lv_at hl 2 rfl) ?_
    refine va_get (D := D) (ci := 4) (v := .int m_lines) (C := RX7) (T := TX7) (N := 12) hx hb hts wi_X7_times__X7 hown hK hP 0 rfl rfl 1 (by decide) (hts _ wm_X7_times__1) (fun _ h9 => h9) rfl dX7_times__85 ?_
    refine lv_iload hx hb dX7_times__88 (lv_at hl 0 rfl) ?_
    obtain ⟨hin13, h⟩ := md_g h
    refine va_iast hx hb hK hP (kD hnd rfl) hS 4 0 rfl rfl hin13 dX7_times__90 (fun H locs hP _ hS => ?_)
    have hP : va_P D vwCl [(mo, .inr (4, [.int m_isWorked, .int m_lines, .ref m_product_a, .ref m_place_a, .ref m_ofX_a, .ref m_ofY_a, .int m_steps, .ref m_step_a, .ref m_rows_a, .ref m_cell_a, .ref m_overs_a, .ref m_sure_a])), (m_product_a, .inl (cI, 16, .inl m_product)), (m_place_a, .inl (cI, 16, .inl m_place)), (m_ofX_a, .inl (cI, 16, .inl m_ofX_12)), (m_ofY_a, .inl (cI, 16, .inl (upd m_ofY (Int32.toNatClampNeg m_lines) u8))), (m_step_a, .inl (cI, 5, .inl m_step)), (m_rows_a, .inl (cI, 4, .inl m_rows)), (m_cell_a, .inl (cI, 96, .inl m_cell)), (m_overs_a, .inl (cI, 29, .inl m_overs)), (m_sure_a, .inl (cI, 24, .inl m_sure))] H := hP
    obtain ⟨m_ofY_13, em_ofY_13⟩ : ∃ y : Nat → Int32, y = (upd m_ofY (Int32.toNatClampNeg m_lines) u8) := ⟨_, rfl⟩
    replace h := md_le em_ofY_13 h
    rw [← em_ofY_13] at hP
    refine lv_aload_n hx hb dX7_times__91 rfl (lv_at hl 2 rfl) ?_
    refine va_get (D := D) (ci := 4) (v := .ref m_product_a) (C := RX7) (T := TX7) (N := 12) hx hb hts wi_X7_times__X7 hown hK hP 0 rfl rfl 2 (by decide) (hts _ wm_X7_times__4) (fun _ h9 => h9) rfl dX7_times__92 ?_
    refine lv_aload_n hx hb dX7_times__95 rfl (lv_at hl 2 rfl) ?_
    refine va_get (D := D) (ci := 4) (v := .int m_lines) (C := RX7) (T := TX7) (N := 12) hx hb hts wi_X7_times__X7 hown hK hP 0 rfl rfl 1 (by decide) (hts _ wm_X7_times__1) (fun _ h9 => h9) rfl dX7_times__96 ?_
    refine lv_iload hx hb dX7_times__99 (lv_at hl 1 rfl) ?_
    refine lv_iload hx hb dX7_times__101 (lv_at hl 0 rfl) ?_
    refine lv_imul hx hb dX7_times__103 ?_
    obtain ⟨hin14, h⟩ := md_g h
    refine va_iast hx hb hK hP (kD hnd rfl) hS 1 0 rfl rfl hin14 dX7_times__104 (fun H locs hP _ hS => ?_)
    have hP : va_P D vwCl [(mo, .inr (4, [.int m_isWorked, .int m_lines, .ref m_product_a, .ref m_place_a, .ref m_ofX_a, .ref m_ofY_a, .int m_steps, .ref m_step_a, .ref m_rows_a, .ref m_cell_a, .ref m_overs_a, .ref m_sure_a])), (m_product_a, .inl (cI, 16, .inl (upd m_product (Int32.toNatClampNeg m_lines) (u7 * u8)))), (m_place_a, .inl (cI, 16, .inl m_place)), (m_ofX_a, .inl (cI, 16, .inl m_ofX_12)), (m_ofY_a, .inl (cI, 16, .inl m_ofY_13)), (m_step_a, .inl (cI, 5, .inl m_step)), (m_rows_a, .inl (cI, 4, .inl m_rows)), (m_cell_a, .inl (cI, 96, .inl m_cell)), (m_overs_a, .inl (cI, 29, .inl m_overs)), (m_sure_a, .inl (cI, 24, .inl m_sure))] H := hP
    obtain ⟨m_product_14, em_product_14⟩ : ∃ y : Nat → Int32, y = (upd m_product (Int32.toNatClampNeg m_lines) (u7 * u8)) := ⟨_, rfl⟩
    replace h := md_le em_product_14 h
    rw [← em_product_14] at hP
    refine lv_aload_n hx hb dX7_times__105 rfl (lv_at hl 2 rfl) ?_
    refine va_get (D := D) (ci := 4) (v := .ref m_place_a) (C := RX7) (T := TX7) (N := 12) hx hb hts wi_X7_times__X7 hown hK hP 0 rfl rfl 3 (by decide) (hts _ wm_X7_times__5) (fun _ h9 => h9) rfl dX7_times__106 ?_
    refine lv_aload_n hx hb dX7_times__109 rfl (lv_at hl 2 rfl) ?_
    refine va_get (D := D) (ci := 4) (v := .int m_lines) (C := RX7) (T := TX7) (N := 12) hx hb hts wi_X7_times__X7 hown hK hP 0 rfl rfl 1 (by decide) (hts _ wm_X7_times__1) (fun _ h9 => h9) rfl dX7_times__110 ?_
    refine lv_iload hx hb dX7_times__113 (lv_at hl 5 rfl) ?_
    refine lv_iload hx hb dX7_times__115 (lv_at hl 6 rfl) ?_
    refine lv_iadd hx hb dX7_times__117 ?_
    obtain ⟨hin15, h⟩ := md_g h
    refine va_iast hx hb hK hP (kD hnd rfl) hS 2 0 rfl rfl hin15 dX7_times__118 (fun H locs hP _ hS => ?_)
    have hP : va_P D vwCl [(mo, .inr (4, [.int m_isWorked, .int m_lines, .ref m_product_a, .ref m_place_a, .ref m_ofX_a, .ref m_ofY_a, .int m_steps, .ref m_step_a, .ref m_rows_a, .ref m_cell_a, .ref m_overs_a, .ref m_sure_a])), (m_product_a, .inl (cI, 16, .inl m_product_14)), (m_place_a, .inl (cI, 16, .inl (upd m_place (Int32.toNatClampNeg m_lines) (x5 + x6)))), (m_ofX_a, .inl (cI, 16, .inl m_ofX_12)), (m_ofY_a, .inl (cI, 16, .inl m_ofY_13)), (m_step_a, .inl (cI, 5, .inl m_step)), (m_rows_a, .inl (cI, 4, .inl m_rows)), (m_cell_a, .inl (cI, 96, .inl m_cell)), (m_overs_a, .inl (cI, 29, .inl m_overs)), (m_sure_a, .inl (cI, 24, .inl m_sure))] H := hP
    obtain ⟨m_place_15, em_place_15⟩ : ∃ y : Nat → Int32, y = (upd m_place (Int32.toNatClampNeg m_lines) (x5 + x6)) := ⟨_, rfl⟩
    replace h := md_le em_place_15 h
    rw [← em_place_15] at hP
    refine lv_aload_n hx hb dX7_times__119 rfl (lv_at hl 2 rfl) ?_
    refine lv_dup hx hb dX7_times__120 rfl ?_
    refine va_get (D := D) (ci := 4) (v := .int m_lines) (C := RX7) (T := TX7) (N := 12) hx hb hts wi_X7_times__X7 hown hK hP 0 rfl rfl 1 (by decide) (hts _ wm_X7_times__1) (fun _ h9 => h9) rfl dX7_times__121 ?_
    refine lv_iconst (v := 1) hx hb dX7_times__124 (by decide) ?_
    refine lv_iadd hx hb dX7_times__125 ?_
    refine lv_topi (fun f_16 ef_16 => ?_)
    replace h := md_le ef_16 h
    refine va_put (D := D) (ci := 4) (v := .int f_16) (ty := .int) (C := RX7) (T := TX7) (N := 12) hx hb hts wi_X7_times__X7 tyX7 tyX7_ok nmX7 hown hK hP (kD hnd rfl) hS 0 rfl rfl 1 (by decide) (hts _ wm_X7_times__1) (fun _ h9 => h9) rfl (by decide +kernel) rfl rfl (Nat.le_of_ble_eq_true rfl) dX7_times__126 (fun H locs hP _ hS => ?_)
    have hP : va_P D vwCl [(mo, .inr (4, [.int m_isWorked, .int f_16, .ref m_product_a, .ref m_place_a, .ref m_ofX_a, .ref m_ofY_a, .int m_steps, .ref m_step_a, .ref m_rows_a, .ref m_cell_a, .ref m_overs_a, .ref m_sure_a])), (m_product_a, .inl (cI, 16, .inl m_product_14)), (m_place_a, .inl (cI, 16, .inl m_place_15)), (m_ofX_a, .inl (cI, 16, .inl m_ofX_12)), (m_ofY_a, .inl (cI, 16, .inl m_ofY_13)), (m_step_a, .inl (cI, 5, .inl m_step)), (m_rows_a, .inl (cI, 4, .inl m_rows)), (m_cell_a, .inl (cI, 96, .inl m_cell)), (m_overs_a, .inl (cI, 29, .inl m_overs)), (m_sure_a, .inl (cI, 24, .inl m_sure))] H := hP
    exact KJ129 f_16 m_product_14 m_place_15 m_ofX_12 m_ofY_13 h _ _ hP hS ls (lv_sub hl [2, 3, 4, 5, 6] rfl)
def mlX7_times__30 (x1 : Int64) (x3 : Int64) (kE : Int32 → (Nat → Int32) → (Nat → Int32) → (Nat → Int32) → (Nat → Int32) → Option (Int32 × Int32 × Int32 × (Nat → Int32) × (Nat → Int32) × (Nat → Int32) × (Nat → Int32))) : Nat → Int32 → Int32 → (Nat → Int32) → (Nat → Int32) → (Nat → Int32) → (Nat → Int32) → Option (Int32 × Int32 × Int32 × (Nat → Int32) × (Nat → Int32) × (Nat → Int32) × (Nat → Int32))
  | 0, _, _, _, _, _, _ => none
  | n + 1, x5, m_lines, m_product, m_place, m_ofX, m_ofY => (if x5 < 0 then (kE m_lines m_product m_place m_ofX m_ofY) else (mlX7_times__38 x1 x3 x5 (fun (m_lines_135 : Int32) (m_product_135 : Nat → Int32) (m_place_135 : Nat → Int32) (m_ofX_135 : Nat → Int32) (m_ofY_135 : Nat → Int32) => (md_let (x5 + (-1 : Int32)) (fun (x5_17 : Int32) => (mlX7_times__30 x1 x3 kE n x5_17 m_lines_135 m_product_135 m_place_135 m_ofX_135 m_ofY_135)))) kN (3 : Int32) m_lines m_product m_place m_ofX m_ofY))
set_option maxHeartbeats 4000000 in
set_option maxRecDepth 100000 in
theorem lX7_times__30 {p : Program} {l : Launch} {e : Env} {s : State} {m : MethodId} {args : Array Value} {below : List Frame} {meth : Method} {c : Code} {Q : State → Prop} (C : kc p s m args meth c cX7_times_ 9 RX7 yX7_times_.name wsX7_times_ (some .int)) {D : va_G} {cI cT : ClassId} {mo m_product_a m_place_a m_ofX_a m_ofY_a m_step_a m_rows_a m_cell_a m_overs_a m_sure_a : Nat} (hK : va_K D vwCl (kTy cI cT) s) (hnd : ([mo, m_product_a, m_place_a, m_ofX_a, m_ofY_a, m_step_a, m_rows_a, m_cell_a, m_overs_a, m_sure_a] : List Nat).Nodup) (x1 : Int64) (x3 : Int64) (m_isWorked : Int32) (m_steps : Int32) (m_step : Nat → Int32) (m_rows : Nat → Int32) (m_cell : Nat → Int32) (m_overs : Nat → Int32) (m_sure : Nat → Int32) (res : (Int32 × Int32 × Int32 × (Nat → Int32) × (Nat → Int32) × (Nat → Int32) × (Nat → Int32))) (hQ : ∀ (v : Int32) (m_isWorked : Int32) (m_lines : Int32) (m_product : Nat → Int32) (m_place : Nat → Int32) (m_ofX : Nat → Int32) (m_ofY : Nat → Int32) (H : Heap) (locs : List Loc) (pc : Nat) (ls : Array Slot), some (v, m_isWorked, m_lines, m_product, m_place, m_ofX, m_ofY) = some res → va_P D vwCl [(mo, .inr (4, [.int m_isWorked, .int m_lines, .ref m_product_a, .ref m_place_a, .ref m_ofX_a, .ref m_ofY_a, .int m_steps, .ref m_step_a, .ref m_rows_a, .ref m_cell_a, .ref m_overs_a, .ref m_sure_a])), (m_product_a, .inl (cI, 16, .inl m_product)), (m_place_a, .inl (cI, 16, .inl m_place)), (m_ofX_a, .inl (cI, 16, .inl m_ofX)), (m_ofY_a, .inl (cI, 16, .inl m_ofY)), (m_step_a, .inl (cI, 5, .inl m_step)), (m_rows_a, .inl (cI, 4, .inl m_rows)), (m_cell_a, .inl (cI, 96, .inl m_cell)), (m_overs_a, .inl (cI, 29, .inl m_overs)), (m_sure_a, .inl (cI, 24, .inl m_sure))] H → va_S (fun q => q ∈ ([mo, m_product_a, m_place_a, m_ofX_a, m_ofY_a, m_step_a, m_rows_a, m_cell_a, m_overs_a, m_sure_a] : List Nat)) s.heap H locs → decode cX7_times_ pc = .ok (.ireturn, 1) → W p l e rmX7_times_ s m args below meth c H locs 0 0 Q (F0 m pc ls [.int v])) (kE : Int32 → (Nat → Int32) → (Nat → Int32) → (Nat → Int32) → (Nat → Int32) → Option (Int32 × Int32 × Int32 × (Nat → Int32) × (Nat → Int32) × (Nat → Int32) × (Nat → Int32))) (hE : ∀ (m_lines : Int32) (m_product : Nat → Int32) (m_place : Nat → Int32) (m_ofX : Nat → Int32) (m_ofY : Nat → Int32), kE m_lines m_product m_place m_ofX m_ofY = some res → ∀ (H : Heap) (locs : List Loc), va_P D vwCl [(mo, .inr (4, [.int m_isWorked, .int m_lines, .ref m_product_a, .ref m_place_a, .ref m_ofX_a, .ref m_ofY_a, .int m_steps, .ref m_step_a, .ref m_rows_a, .ref m_cell_a, .ref m_overs_a, .ref m_sure_a])), (m_product_a, .inl (cI, 16, .inl m_product)), (m_place_a, .inl (cI, 16, .inl m_place)), (m_ofX_a, .inl (cI, 16, .inl m_ofX)), (m_ofY_a, .inl (cI, 16, .inl m_ofY)), (m_step_a, .inl (cI, 5, .inl m_step)), (m_rows_a, .inl (cI, 4, .inl m_rows)), (m_cell_a, .inl (cI, 96, .inl m_cell)), (m_overs_a, .inl (cI, 29, .inl m_overs)), (m_sure_a, .inl (cI, 24, .inl m_sure))] H → va_S (fun q => q ∈ ([mo, m_product_a, m_place_a, m_ofX_a, m_ofY_a, m_step_a, m_rows_a, m_cell_a, m_overs_a, m_sure_a] : List Nat)) s.heap H locs → ∀ (ls : Array Slot), lv_has ls 9 [(0, .ref mo)] → W p l e rmX7_times_ s m args below meth c H locs 0 0 Q (F0 m 141 ls [])) : ∀ (n : Nat), ∀ (x5 : Int32) (m_lines : Int32) (m_product : Nat → Int32) (m_place : Nat → Int32) (m_ofX : Nat → Int32) (m_ofY : Nat → Int32), mlX7_times__30 x1 x3 kE n x5 m_lines m_product m_place m_ofX m_ofY = some res → ∀ (H : Heap) (locs : List Loc), va_P D vwCl [(mo, .inr (4, [.int m_isWorked, .int m_lines, .ref m_product_a, .ref m_place_a, .ref m_ofX_a, .ref m_ofY_a, .int m_steps, .ref m_step_a, .ref m_rows_a, .ref m_cell_a, .ref m_overs_a, .ref m_sure_a])), (m_product_a, .inl (cI, 16, .inl m_product)), (m_place_a, .inl (cI, 16, .inl m_place)), (m_ofX_a, .inl (cI, 16, .inl m_ofX)), (m_ofY_a, .inl (cI, 16, .inl m_ofY)), (m_step_a, .inl (cI, 5, .inl m_step)), (m_rows_a, .inl (cI, 4, .inl m_rows)), (m_cell_a, .inl (cI, 96, .inl m_cell)), (m_overs_a, .inl (cI, 29, .inl m_overs)), (m_sure_a, .inl (cI, 24, .inl m_sure))] H → va_S (fun q => q ∈ ([mo, m_product_a, m_place_a, m_ofX_a, m_ofY_a, m_step_a, m_rows_a, m_cell_a, m_overs_a, m_sure_a] : List Nat)) s.heap H locs → ∀ (ls : Array Slot), lv_has ls 9 [(0, .ref mo), (1, .long x1), (3, .long x3), (5, .int x5)] → W p l e rmX7_times_ s m args below meth c H locs 0 0 Q (F0 m 30 ls []) := by
  have C0 := C
  obtain ⟨hx, hb, hml, hown, hts, hr, hlk, hnm⟩ := C0
  intro n
  induction n with
  | zero => intro _ _ _ _ _ _ h; exact md_x h
  | succ n ih =>
    intro x5 m_lines m_product m_place m_ofX m_ofY h H locs hP hS ls hl
    rw [mlX7_times__30] at h
    refine lv_iload hx hb dX7_times__30 (lv_at hl 3 rfl) ?_
    refine lv_if_lt (tgt := 141) hx hb dX7_times__32 (by decide) (fun c5 => ?_) (fun c5 => ?_)
    · replace h := md_t c5 h
      exact hE m_lines m_product m_place m_ofX m_ofY h _ _ hP hS ls (lv_sub hl [0] rfl)
    replace h := md_f c5 h
    refine lv_iconst (v := 3) hx hb dX7_times__35 (by decide) ?_
    refine lv_istore (lv' := [(6, .int (3 : Int32)), (0, .ref mo), (1, .long x1), (3, .long x3), (5, .int x5)]) hx hb dX7_times__36 hl (by decide) rfl (fun ls hl => ?_)
    refine lX7_times__38 (mo := mo) (m_product_a := m_product_a) (m_place_a := m_place_a) (m_ofX_a := m_ofX_a) (m_ofY_a := m_ofY_a) (m_step_a := m_step_a) (m_rows_a := m_rows_a) (m_cell_a := m_cell_a) (m_overs_a := m_overs_a) (m_sure_a := m_sure_a) C hK hnd x1 x3 x5 m_isWorked m_steps m_step m_rows m_cell m_overs m_sure res hQ _ (fun m_lines_135 m_product_135 m_place_135 m_ofX_135 m_ofY_135 h H locs hP hS ls hl => ?_) kN (3 : Int32) m_lines m_product m_place m_ofX m_ofY h _ _ hP hS ls (lv_sub hl [1, 2, 3, 4, 0] rfl)
    obtain ⟨x5_17, ex5_17⟩ : ∃ y : Int32, y = (x5 + (-1 : Int32)) := ⟨_, rfl⟩
    replace h := md_le ex5_17 h
    refine lv_iinc (v := x5_17) (lv' := [(5, .int x5_17), (0, .ref mo), (1, .long x1), (3, .long x3)]) hx hb dX7_times__135 hl (k := 3) rfl (by rw [ex5_17]; rfl) (by decide) rfl (fun ls hl => ?_)
    refine lv_goto (tgt := 30) hx hb dX7_times__138 (by decide) ?_
    exact ih x5_17 m_lines_135 m_product_135 m_place_135 m_ofX_135 m_ofY_135 h _ _ hP hS ls (lv_sub hl [1, 2, 3, 0] rfl)
def mX7_times_ (m_isWorked : Int32) (m_lines : Int32) (m_product : Nat → Int32) (m_place : Nat → Int32) (m_ofX : Nat → Int32) (m_ofY : Nat → Int32) (p1 : Int64) (p2 : Int64) : Option (Int32 × Int32 × Int32 × (Nat → Int32) × (Nat → Int32) × (Nat → Int32) × (Nat → Int32)) := (Option.bind (mX7_isShort p1) (fun u1 => (if u1 = 0 then (some ((-2 : Int32), m_isWorked, m_lines, m_product, m_place, m_ofX, m_ofY)) else (Option.bind (mX7_isShort p2) (fun u3 => (if u3 = 0 then (some ((-2 : Int32), m_isWorked, m_lines, m_product, m_place, m_ofX, m_ofY)) else (mlX7_times__30 p1 p2 (fun (m_lines_141 : Int32) (m_product_141 : Nat → Int32) (m_place_141 : Nat → Int32) (m_ofX_141 : Nat → Int32) (m_ofY_141 : Nat → Int32) => (some (m_lines_141, (1 : Int32), m_lines_141, m_product_141, m_place_141, m_ofX_141, m_ofY_141))) kN (3 : Int32) (0 : Int32) m_product m_place m_ofX m_ofY)))))))
set_option maxHeartbeats 4000000 in
set_option maxRecDepth 100000 in
theorem bX7_times_ {p : Program} {l : Launch} {e : Env} {s : State} {m : MethodId} {args : Array Value} {below : List Frame} {meth : Method} {c : Code} {Q : State → Prop} (C : kc p s m args meth c cX7_times_ 9 RX7 yX7_times_.name wsX7_times_ (some .int)) {D : va_G} {cI cT : ClassId} {mo m_product_a m_place_a m_ofX_a m_ofY_a m_step_a m_rows_a m_cell_a m_overs_a m_sure_a : Nat} (p1 : Int64) (p2 : Int64) (hK : va_K D vwCl (kTy cI cT) s) (hnd : ([mo, m_product_a, m_place_a, m_ofX_a, m_ofY_a, m_step_a, m_rows_a, m_cell_a, m_overs_a, m_sure_a] : List Nat).Nodup) (m_isWorked : Int32) (m_lines : Int32) (m_product : Nat → Int32) (m_place : Nat → Int32) (m_ofX : Nat → Int32) (m_ofY : Nat → Int32) (m_steps : Int32) (m_step : Nat → Int32) (m_rows : Nat → Int32) (m_cell : Nat → Int32) (m_overs : Nat → Int32) (m_sure : Nat → Int32) (res : (Int32 × Int32 × Int32 × (Nat → Int32) × (Nat → Int32) × (Nat → Int32) × (Nat → Int32))) (hQ : ∀ (v : Int32) (m_isWorked : Int32) (m_lines : Int32) (m_product : Nat → Int32) (m_place : Nat → Int32) (m_ofX : Nat → Int32) (m_ofY : Nat → Int32) (H : Heap) (locs : List Loc) (pc : Nat) (ls : Array Slot), some (v, m_isWorked, m_lines, m_product, m_place, m_ofX, m_ofY) = some res → va_P D vwCl [(mo, .inr (4, [.int m_isWorked, .int m_lines, .ref m_product_a, .ref m_place_a, .ref m_ofX_a, .ref m_ofY_a, .int m_steps, .ref m_step_a, .ref m_rows_a, .ref m_cell_a, .ref m_overs_a, .ref m_sure_a])), (m_product_a, .inl (cI, 16, .inl m_product)), (m_place_a, .inl (cI, 16, .inl m_place)), (m_ofX_a, .inl (cI, 16, .inl m_ofX)), (m_ofY_a, .inl (cI, 16, .inl m_ofY)), (m_step_a, .inl (cI, 5, .inl m_step)), (m_rows_a, .inl (cI, 4, .inl m_rows)), (m_cell_a, .inl (cI, 96, .inl m_cell)), (m_overs_a, .inl (cI, 29, .inl m_overs)), (m_sure_a, .inl (cI, 24, .inl m_sure))] H → va_S (fun q => q ∈ ([mo, m_product_a, m_place_a, m_ofX_a, m_ofY_a, m_step_a, m_rows_a, m_cell_a, m_overs_a, m_sure_a] : List Nat)) s.heap H locs → decode cX7_times_ pc = .ok (.ireturn, 1) → W p l e rmX7_times_ s m args below meth c H locs 0 0 Q (F0 m pc ls [.int v])) : mX7_times_ m_isWorked m_lines m_product m_place m_ofX m_ofY p1 p2 = some res → ∀ (H : Heap) (locs : List Loc), va_P D vwCl [(mo, .inr (4, [.int m_isWorked, .int m_lines, .ref m_product_a, .ref m_place_a, .ref m_ofX_a, .ref m_ofY_a, .int m_steps, .ref m_step_a, .ref m_rows_a, .ref m_cell_a, .ref m_overs_a, .ref m_sure_a])), (m_product_a, .inl (cI, 16, .inl m_product)), (m_place_a, .inl (cI, 16, .inl m_place)), (m_ofX_a, .inl (cI, 16, .inl m_ofX)), (m_ofY_a, .inl (cI, 16, .inl m_ofY)), (m_step_a, .inl (cI, 5, .inl m_step)), (m_rows_a, .inl (cI, 4, .inl m_rows)), (m_cell_a, .inl (cI, 96, .inl m_cell)), (m_overs_a, .inl (cI, 29, .inl m_overs)), (m_sure_a, .inl (cI, 24, .inl m_sure))] H → va_S (fun q => q ∈ ([mo, m_product_a, m_place_a, m_ofX_a, m_ofY_a, m_step_a, m_rows_a, m_cell_a, m_overs_a, m_sure_a] : List Nat)) s.heap H locs → ∀ (ls : Array Slot), lv_has ls 9 [(0, .ref mo), (1, .long p1), (3, .long p2)] → W p l e rmX7_times_ s m args below meth c H locs 0 0 Q (F0 m 0 ls []) := by
  intro h H locs hP hS ls hl
  have C0 := C
  obtain ⟨hx, hb, hml, hown, hts, hr, hlk, hnm⟩ := C0
  rw [mX7_times_] at h
  refine lv_lload_n hx hb dX7_times__0 rfl (lv_at hl 1 rfl) ?_
  obtain ⟨u1, hu1, h⟩ := md_b h
  refine kS C (ctX7_isShort l  hu1) gX7_times__X7_isShort rfl kdX7_isShort ⟨rfl, rfl⟩ ⟨by decide, by decide⟩ kT_blind (fun _ _ _ => trivial) rfl hl [] rfl (Nat.le_of_ble_eq_true rfl) dX7_times__1 ⟨by decide, by decide⟩ ?_
  refine lv_if_eq (tgt := 14) hx hb dX7_times__4 (by decide) (fun c2 => ?_) (fun c2 => ?_)
  · replace h := md_t c2 h
    refine lv_bipush (v := -2) hx hb dX7_times__14 (by decide) ?_
    exact hQ (-2 : Int32) m_isWorked m_lines m_product m_place m_ofX m_ofY H locs 16 ls h hP hS dX7_times__16
  replace h := md_f c2 h
  refine lv_lload_n hx hb dX7_times__7 rfl (lv_at hl 2 rfl) ?_
  obtain ⟨u3, hu3, h⟩ := md_b h
  refine kS C (ctX7_isShort l  hu3) gX7_times__X7_isShort rfl kdX7_isShort ⟨rfl, rfl⟩ ⟨by decide, by decide⟩ kT_blind (fun _ _ _ => trivial) rfl hl [] rfl (Nat.le_of_ble_eq_true rfl) dX7_times__8 ⟨by decide, by decide⟩ ?_
  refine lv_if_ne (tgt := 17) hx hb dX7_times__11 (by decide) (fun c4 => ?_) (fun c4 => ?_)
  · replace h := md_f c4 h
    refine lv_aload_n hx hb dX7_times__17 rfl (lv_at hl 0 rfl) ?_
    refine lv_iconst (v := 1) hx hb dX7_times__18 (by decide) ?_
    refine va_put (D := D) (ci := 4) (v := .int (1 : Int32)) (ty := .boolean) (C := RX7) (T := TX7) (N := 12) hx hb hts wi_X7_times__X7 tyX7 tyX7_ok nmX7 hown hK hP (kD hnd rfl) hS 0 rfl rfl 0 (by decide) (hts _ wm_X7_times__0) (fun _ h9 => h9) rfl (by decide +kernel) (by decide) (by decide) (Nat.le_of_ble_eq_true rfl) dX7_times__19 (fun H locs hP _ hS => ?_)
    have hP : va_P D vwCl [(mo, .inr (4, [.int (1 : Int32), .int m_lines, .ref m_product_a, .ref m_place_a, .ref m_ofX_a, .ref m_ofY_a, .int m_steps, .ref m_step_a, .ref m_rows_a, .ref m_cell_a, .ref m_overs_a, .ref m_sure_a])), (m_product_a, .inl (cI, 16, .inl m_product)), (m_place_a, .inl (cI, 16, .inl m_place)), (m_ofX_a, .inl (cI, 16, .inl m_ofX)), (m_ofY_a, .inl (cI, 16, .inl m_ofY)), (m_step_a, .inl (cI, 5, .inl m_step)), (m_rows_a, .inl (cI, 4, .inl m_rows)), (m_cell_a, .inl (cI, 96, .inl m_cell)), (m_overs_a, .inl (cI, 29, .inl m_overs)), (m_sure_a, .inl (cI, 24, .inl m_sure))] H := hP
    refine lv_aload_n hx hb dX7_times__22 rfl (lv_at hl 0 rfl) ?_
    refine lv_iconst (v := 0) hx hb dX7_times__23 (by decide) ?_
    refine va_put (D := D) (ci := 4) (v := .int (0 : Int32)) (ty := .int) (C := RX7) (T := TX7) (N := 12) hx hb hts wi_X7_times__X7 tyX7 tyX7_ok nmX7 hown hK hP (kD hnd rfl) hS 0 rfl rfl 1 (by decide) (hts _ wm_X7_times__1) (fun _ h9 => h9) rfl (by decide +kernel) rfl rfl (Nat.le_of_ble_eq_true rfl) dX7_times__24 (fun H locs hP _ hS => ?_)
    have hP : va_P D vwCl [(mo, .inr (4, [.int (1 : Int32), .int (0 : Int32), .ref m_product_a, .ref m_place_a, .ref m_ofX_a, .ref m_ofY_a, .int m_steps, .ref m_step_a, .ref m_rows_a, .ref m_cell_a, .ref m_overs_a, .ref m_sure_a])), (m_product_a, .inl (cI, 16, .inl m_product)), (m_place_a, .inl (cI, 16, .inl m_place)), (m_ofX_a, .inl (cI, 16, .inl m_ofX)), (m_ofY_a, .inl (cI, 16, .inl m_ofY)), (m_step_a, .inl (cI, 5, .inl m_step)), (m_rows_a, .inl (cI, 4, .inl m_rows)), (m_cell_a, .inl (cI, 96, .inl m_cell)), (m_overs_a, .inl (cI, 29, .inl m_overs)), (m_sure_a, .inl (cI, 24, .inl m_sure))] H := hP
    refine lv_iconst (v := 3) hx hb dX7_times__27 (by decide) ?_
    refine lv_istore (lv' := [(5, .int (3 : Int32)), (0, .ref mo), (1, .long p1), (3, .long p2)]) hx hb dX7_times__28 hl (by decide) rfl (fun ls hl => ?_)
    refine lX7_times__30 (mo := mo) (m_product_a := m_product_a) (m_place_a := m_place_a) (m_ofX_a := m_ofX_a) (m_ofY_a := m_ofY_a) (m_step_a := m_step_a) (m_rows_a := m_rows_a) (m_cell_a := m_cell_a) (m_overs_a := m_overs_a) (m_sure_a := m_sure_a) C hK hnd p1 p2 (1 : Int32) m_steps m_step m_rows m_cell m_overs m_sure res hQ _ (fun m_lines_141 m_product_141 m_place_141 m_ofX_141 m_ofY_141 h H locs hP hS ls hl => ?_) kN (3 : Int32) (0 : Int32) m_product m_place m_ofX m_ofY h _ _ hP hS ls (lv_sub hl [1, 2, 3, 0] rfl)
    refine lv_aload_n hx hb dX7_times__141 rfl (lv_at hl 0 rfl) ?_
    refine va_get (D := D) (ci := 4) (v := .int m_lines_141) (C := RX7) (T := TX7) (N := 12) hx hb hts wi_X7_times__X7 hown hK hP 0 rfl rfl 1 (by decide) (hts _ wm_X7_times__1) (fun _ h9 => h9) rfl dX7_times__142 ?_
    exact hQ m_lines_141 (1 : Int32) m_lines_141 m_product_141 m_place_141 m_ofX_141 m_ofY_141 H locs 145 ls h hP hS dX7_times__145
  replace h := md_t c4 h
  refine lv_bipush (v := -2) hx hb dX7_times__14 (by decide) ?_
  exact hQ (-2 : Int32) m_isWorked m_lines m_product m_place m_ofX m_ofY H locs 16 ls h hP hS dX7_times__16
set_option maxHeartbeats 4000000 in
theorem ctX7_times_ (l : Launch) {D : va_G} {cI cT : ClassId} {mo m_product_a m_place_a m_ofX_a m_ofY_a m_step_a m_rows_a m_cell_a m_overs_a m_sure_a : Nat} {m_isWorked : Int32} {m_lines : Int32} {m_product : Nat → Int32} {m_place : Nat → Int32} {m_ofX : Nat → Int32} {m_ofY : Nat → Int32} {m_steps : Int32} {m_step : Nat → Int32} {m_rows : Nat → Int32} {m_cell : Nat → Int32} {m_overs : Nat → Int32} {m_sure : Nat → Int32} {p1 : Int64} {p2 : Int64} {res : (Int32 × Int32 × Int32 × (Nat → Int32) × (Nat → Int32) × (Nat → Int32) × (Nat → Int32))} (hnd : ([mo, m_product_a, m_place_a, m_ofX_a, m_ofY_a, m_step_a, m_rows_a, m_cell_a, m_overs_a, m_sure_a] : List Nat).Nodup) (hm : mX7_times_ m_isWorked m_lines m_product m_place m_ofX m_ofY p1 p2 = some res) : Met l yX7_times_ wsX7_times_ rmX7_times_ (va_Pc [.ref mo, .long p1, .long p2] (kW D cI cT [(mo, .inr (4, [.int m_isWorked, .int m_lines, .ref m_product_a, .ref m_place_a, .ref m_ofX_a, .ref m_ofY_a, .int m_steps, .ref m_step_a, .ref m_rows_a, .ref m_cell_a, .ref m_overs_a, .ref m_sure_a])), (m_product_a, .inl (cI, 16, .inl m_product)), (m_place_a, .inl (cI, 16, .inl m_place)), (m_ofX_a, .inl (cI, 16, .inl m_ofX)), (m_ofY_a, .inl (cI, 16, .inl m_ofY)), (m_step_a, .inl (cI, 5, .inl m_step)), (m_rows_a, .inl (cI, 4, .inl m_rows)), (m_cell_a, .inl (cI, 96, .inl m_cell)), (m_overs_a, .inl (cI, 29, .inl m_overs)), (m_sure_a, .inl (cI, 24, .inl m_sure))] none (fun q => q ∈ ([mo, m_product_a, m_place_a, m_ofX_a, m_ofY_a, m_step_a, m_rows_a, m_cell_a, m_overs_a, m_sure_a] : List Nat)))) (kX (some (.int res.1)) D [(mo, .inr (4, [.int res.2.1, .int res.2.2.1, .ref m_product_a, .ref m_place_a, .ref m_ofX_a, .ref m_ofY_a, .int m_steps, .ref m_step_a, .ref m_rows_a, .ref m_cell_a, .ref m_overs_a, .ref m_sure_a])), (m_product_a, .inl (cI, 16, .inl res.2.2.2.1)), (m_place_a, .inl (cI, 16, .inl res.2.2.2.2.1)), (m_ofX_a, .inl (cI, 16, .inl res.2.2.2.2.2.1)), (m_ofY_a, .inl (cI, 16, .inl res.2.2.2.2.2.2)), (m_step_a, .inl (cI, 5, .inl m_step)), (m_rows_a, .inl (cI, 4, .inl m_rows)), (m_cell_a, .inl (cI, 96, .inl m_cell)), (m_overs_a, .inl (cI, 29, .inl m_overs)), (m_sure_a, .inl (cI, 24, .inl m_sure))] (fun q => q ∈ ([mo, m_product_a, m_place_a, m_ofX_a, m_ofY_a, m_step_a, m_rows_a, m_cell_a, m_overs_a, m_sure_a] : List Nat))) 0 0 (fun q => q ∈ ([mo, m_product_a, m_place_a, m_ofX_a, m_ofY_a, m_step_a, m_rows_a, m_cell_a, m_overs_a, m_sure_a] : List Nat)) :=
  km (by decide) rfl (Nat.le_of_ble_eq_true rfl) (fun p e s m below meth c ls C hB hl => bX7_times_ C p1 p2 hB.1 hnd m_isWorked m_lines m_product m_place m_ofX m_ofY m_steps m_step m_rows m_cell m_overs m_sure res (fun v m_isWorked1 m_lines1 m_product1 m_place1 m_ofX1 m_ofY1 H locs pc ls h hP hS hd => by obtain rfl := Option.some.inj h; exact kx_i C hP hS hd) hm s.heap [] hB.2.1 va_S.rf ls hl)
theorem wm_X7_isLine_0 : Cond.fieldLink RX7 126 "SixtyTabletModel" "lines" "I" ∈ wsX7_isLine := by decide +kernel
theorem wi_X7_isLine_X7 : ∀ w ∈ wsX70, w ∈ wsX7_isLine := by decide +kernel
theorem kdvX7_isLine : yX7_isLine.cls = RX7 ∧ yX7_isLine.cls ≠ "java/lang/invoke/MethodHandle" ∧ yX7_isLine.cls ≠ "java/lang/invoke/VarHandle" ∧ (parseMethodDescriptor yX7_isLine.desc).map (fun d => d.parameters.length) = some 1 := by decide +kernel
abbrev rmX7_isLine : Room := { frames := 1, cells := 0, slots := 0, locals := 25 }
def mX7_isLine (m_lines : Int32) (p1 : Int32) : Option Int32 := (Option.bind (mX7_in (Int32.toInt64 p1) (0 : Int64) (Int32.toInt64 (m_lines - (1 : Int32)))) (fun u1 => (if u1 = 0 ∨ u1 = 1 then (some u1) else none)))
set_option maxHeartbeats 4000000 in
set_option maxRecDepth 100000 in
theorem bX7_isLine {p : Program} {l : Launch} {e : Env} {s : State} {m : MethodId} {args : Array Value} {below : List Frame} {meth : Method} {c : Code} {Q : State → Prop} (C : kc p s m args meth c cX7_isLine 2 RX7 yX7_isLine.name wsX7_isLine (some .boolean)) {D : va_G} {cI cT : ClassId} {mo m_product_a m_place_a m_ofX_a m_ofY_a m_step_a m_rows_a m_cell_a m_overs_a m_sure_a : Nat} (p1 : Int32) (hK : va_K D vwCl (kTy cI cT) s) (m_isWorked : Int32) (m_lines : Int32) (m_product : Nat → Int32) (m_place : Nat → Int32) (m_ofX : Nat → Int32) (m_ofY : Nat → Int32) (m_steps : Int32) (m_step : Nat → Int32) (m_rows : Nat → Int32) (m_cell : Nat → Int32) (m_overs : Nat → Int32) (m_sure : Nat → Int32) (hP : va_P D vwCl [(mo, .inr (4, [.int m_isWorked, .int m_lines, .ref m_product_a, .ref m_place_a, .ref m_ofX_a, .ref m_ofY_a, .int m_steps, .ref m_step_a, .ref m_rows_a, .ref m_cell_a, .ref m_overs_a, .ref m_sure_a])), (m_product_a, .inl (cI, 16, .inl m_product)), (m_place_a, .inl (cI, 16, .inl m_place)), (m_ofX_a, .inl (cI, 16, .inl m_ofX)), (m_ofY_a, .inl (cI, 16, .inl m_ofY)), (m_step_a, .inl (cI, 5, .inl m_step)), (m_rows_a, .inl (cI, 4, .inl m_rows)), (m_cell_a, .inl (cI, 96, .inl m_cell)), (m_overs_a, .inl (cI, 29, .inl m_overs)), (m_sure_a, .inl (cI, 24, .inl m_sure))] s.heap) (res : Int32) (hQ : ∀ (v : Int32) (pc : Nat) (ls : Array Slot), v = 0 ∨ v = 1 → some v = some res → decode cX7_isLine pc = .ok (.ireturn, 1) → W p l e rmX7_isLine s m args below meth c s.heap [] 0 0 Q (F0 m pc ls [.int v])) : mX7_isLine m_lines p1 = some res → ∀ (ls : Array Slot), lv_has ls 2 [(0, .ref mo), (1, .int p1)] → W p l e rmX7_isLine s m args below meth c s.heap [] 0 0 Q (F0 m 0 ls []) := by
  intro h ls hl
  have C0 := C
  obtain ⟨hx, hb, hml, hown, hts, hr, hlk, hnm⟩ := C0
  rw [mX7_isLine] at h
  refine lv_iload_n hx hb dX7_isLine_0 rfl (lv_at hl 1 rfl) ?_
  refine lv_i2l hx hb dX7_isLine_1 rfl ?_
  refine lv_lconst (v := 0) hx hb dX7_isLine_2 (by decide) ?_
  refine lv_aload_n hx hb dX7_isLine_3 rfl (lv_at hl 0 rfl) ?_
  refine va_get (D := D) (ci := 4) (v := .int m_lines) (C := RX7) (T := TX7) (N := 12) hx hb hts wi_X7_isLine_X7 hown hK hP 0 rfl rfl 1 (by decide) (hts _ wm_X7_isLine_0) (fun _ h9 => h9) rfl dX7_isLine_4 ?_
  refine lv_iconst (v := 1) hx hb dX7_isLine_7 (by decide) ?_
  refine lv_isub hx hb dX7_isLine_8 ?_
  refine lv_i2l hx hb dX7_isLine_9 rfl ?_
  obtain ⟨u1, hu1, h⟩ := md_b h
  refine kS C (ctX7_in l  hu1) gX7_isLine_X7_in rfl kdX7_in ⟨rfl, rfl⟩ ⟨by decide, by decide⟩ kT_blind (fun _ _ _ => trivial) rfl hl [] rfl (Nat.le_of_ble_eq_true rfl) dX7_isLine_10 ⟨by decide, by decide⟩ ?_
  obtain ⟨hz2, h⟩ := md_z h
  exact hQ u1 13 ls hz2 h dX7_isLine_13
set_option maxHeartbeats 4000000 in
theorem ctX7_isLine (l : Launch) {D : va_G} {cI cT : ClassId} {mo m_product_a m_place_a m_ofX_a m_ofY_a m_step_a m_rows_a m_cell_a m_overs_a m_sure_a : Nat} {m_isWorked : Int32} {m_lines : Int32} {m_product : Nat → Int32} {m_place : Nat → Int32} {m_ofX : Nat → Int32} {m_ofY : Nat → Int32} {m_steps : Int32} {m_step : Nat → Int32} {m_rows : Nat → Int32} {m_cell : Nat → Int32} {m_overs : Nat → Int32} {m_sure : Nat → Int32} {p1 : Int32} {res : Int32} (hm : mX7_isLine m_lines p1 = some res) : Met l yX7_isLine wsX7_isLine rmX7_isLine (va_Pc [.ref mo, .int p1] (kW D cI cT [(mo, .inr (4, [.int m_isWorked, .int m_lines, .ref m_product_a, .ref m_place_a, .ref m_ofX_a, .ref m_ofY_a, .int m_steps, .ref m_step_a, .ref m_rows_a, .ref m_cell_a, .ref m_overs_a, .ref m_sure_a])), (m_product_a, .inl (cI, 16, .inl m_product)), (m_place_a, .inl (cI, 16, .inl m_place)), (m_ofX_a, .inl (cI, 16, .inl m_ofX)), (m_ofY_a, .inl (cI, 16, .inl m_ofY)), (m_step_a, .inl (cI, 5, .inl m_step)), (m_rows_a, .inl (cI, 4, .inl m_rows)), (m_cell_a, .inl (cI, 96, .inl m_cell)), (m_overs_a, .inl (cI, 29, .inl m_overs)), (m_sure_a, .inl (cI, 24, .inl m_sure))] none (fun _ => False))) (kR (.int res)) 0 0 (fun _ => False) :=
  km (by decide) rfl (Nat.le_of_ble_eq_true rfl) (fun p e s m below meth c ls C hB hl => bX7_isLine C p1 hB.1 m_isWorked m_lines m_product m_place m_ofX m_ofY m_steps m_step m_rows m_cell m_overs m_sure hB.2.1 res (fun v pc ls hz h hd => kr_z C hz h hd) hm ls hl)
theorem wm_X7_line_0 : Cond.fieldLink RX7 19 "SixtyTabletModel" "ofY" "[I" ∈ wsX7_line := by decide +kernel
theorem wm_X7_line_1 : Cond.fieldLink RX7 16 "SixtyTabletModel" "ofX" "[I" ∈ wsX7_line := by decide +kernel
theorem wm_X7_line_2 : Cond.fieldLink RX7 13 "SixtyTabletModel" "place" "[I" ∈ wsX7_line := by decide +kernel
theorem wm_X7_line_3 : Cond.fieldLink RX7 7 "SixtyTabletModel" "product" "[I" ∈ wsX7_line := by decide +kernel
theorem wi_X7_line_X7 : ∀ w ∈ wsX70, w ∈ wsX7_line := by decide +kernel
theorem kdvX7_line : yX7_line.cls = RX7 ∧ yX7_line.cls ≠ "java/lang/invoke/MethodHandle" ∧ yX7_line.cls ≠ "java/lang/invoke/VarHandle" ∧ (parseMethodDescriptor yX7_line.desc).map (fun d => d.parameters.length) = some 2 := by decide +kernel
abbrev rmX7_line : Room := { frames := 2, cells := 0, slots := 0, locals := 46 }
def mX7_line (m_lines : Int32) (m_product : Nat → Int32) (m_place : Nat → Int32) (m_ofX : Nat → Int32) (m_ofY : Nat → Int32) (p1 : Int32) (p2 : Int32) : Option Int32 := (Option.bind (mX7_isLine m_lines p1) (fun u1 => (if u1 = 0 then (some (-1 : Int32)) else (if p2 = 0 then (if p1 < 0 ∨ 16 ≤ (Int32.toNatClampNeg p1) then none else (some (m_product (Int32.toNatClampNeg p1)))) else (if p2 = (1 : Int32) then (if p1 < 0 ∨ 16 ≤ (Int32.toNatClampNeg p1) then none else (some (m_place (Int32.toNatClampNeg p1)))) else (if p2 = (2 : Int32) then (if p1 < 0 ∨ 16 ≤ (Int32.toNatClampNeg p1) then none else (some (m_ofX (Int32.toNatClampNeg p1)))) else (if p2 = (3 : Int32) then (if p1 < 0 ∨ 16 ≤ (Int32.toNatClampNeg p1) then none else (some (m_ofY (Int32.toNatClampNeg p1)))) else (some (-2 : Int32)))))))))
set_option maxHeartbeats 4000000 in
set_option maxRecDepth 100000 in
theorem bX7_line {p : Program} {l : Launch} {e : Env} {s : State} {m : MethodId} {args : Array Value} {below : List Frame} {meth : Method} {c : Code} {Q : State → Prop} (C : kc p s m args meth c cX7_line 3 RX7 yX7_line.name wsX7_line (some .int)) {D : va_G} {cI cT : ClassId} {mo m_product_a m_place_a m_ofX_a m_ofY_a m_step_a m_rows_a m_cell_a m_overs_a m_sure_a : Nat} (p1 : Int32) (p2 : Int32) (hK : va_K D vwCl (kTy cI cT) s) (m_isWorked : Int32) (m_lines : Int32) (m_product : Nat → Int32) (m_place : Nat → Int32) (m_ofX : Nat → Int32) (m_ofY : Nat → Int32) (m_steps : Int32) (m_step : Nat → Int32) (m_rows : Nat → Int32) (m_cell : Nat → Int32) (m_overs : Nat → Int32) (m_sure : Nat → Int32) (hP : va_P D vwCl [(mo, .inr (4, [.int m_isWorked, .int m_lines, .ref m_product_a, .ref m_place_a, .ref m_ofX_a, .ref m_ofY_a, .int m_steps, .ref m_step_a, .ref m_rows_a, .ref m_cell_a, .ref m_overs_a, .ref m_sure_a])), (m_product_a, .inl (cI, 16, .inl m_product)), (m_place_a, .inl (cI, 16, .inl m_place)), (m_ofX_a, .inl (cI, 16, .inl m_ofX)), (m_ofY_a, .inl (cI, 16, .inl m_ofY)), (m_step_a, .inl (cI, 5, .inl m_step)), (m_rows_a, .inl (cI, 4, .inl m_rows)), (m_cell_a, .inl (cI, 96, .inl m_cell)), (m_overs_a, .inl (cI, 29, .inl m_overs)), (m_sure_a, .inl (cI, 24, .inl m_sure))] s.heap) (res : Int32) (hQ : ∀ (v : Int32) (pc : Nat) (ls : Array Slot), some v = some res → decode cX7_line pc = .ok (.ireturn, 1) → W p l e rmX7_line s m args below meth c s.heap [] 0 0 Q (F0 m pc ls [.int v])) : mX7_line m_lines m_product m_place m_ofX m_ofY p1 p2 = some res → ∀ (ls : Array Slot), lv_has ls 3 [(0, .ref mo), (1, .int p1), (2, .int p2)] → W p l e rmX7_line s m args below meth c s.heap [] 0 0 Q (F0 m 0 ls []) := by
  intro h ls hl
  have C0 := C
  obtain ⟨hx, hb, hml, hown, hts, hr, hlk, hnm⟩ := C0
  rw [mX7_line] at h
  refine lv_aload_n hx hb dX7_line_0 rfl (lv_at hl 0 rfl) ?_
  refine lv_iload_n hx hb dX7_line_1 rfl (lv_at hl 1 rfl) ?_
  obtain ⟨u1, hu1, h⟩ := md_b h
  refine kV C (ctX7_isLine l  hu1) gX7_line_X7_isLine rfl kdvX7_isLine ⟨rfl, rfl⟩ ⟨by decide, by decide⟩ kW_blind (va_recv hK hP (ci := 4) (q0 := 0) rfl rfl) (kW_use hK (hP.sub (ws' := [(mo, .inr (4, [.int m_isWorked, .int m_lines, .ref m_product_a, .ref m_place_a, .ref m_ofX_a, .ref m_ofY_a, .int m_steps, .ref m_step_a, .ref m_rows_a, .ref m_cell_a, .ref m_overs_a, .ref m_sure_a])), (m_product_a, .inl (cI, 16, .inl m_product)), (m_place_a, .inl (cI, 16, .inl m_place)), (m_ofX_a, .inl (cI, 16, .inl m_ofX)), (m_ofY_a, .inl (cI, 16, .inl m_ofY)), (m_step_a, .inl (cI, 5, .inl m_step)), (m_rows_a, .inl (cI, 4, .inl m_rows)), (m_cell_a, .inl (cI, 96, .inl m_cell)), (m_overs_a, .inl (cI, 29, .inl m_overs)), (m_sure_a, .inl (cI, 24, .inl m_sure))]) [0, 1, 2, 3, 4, 5, 6, 7, 8, 9] rfl) kL_no) rfl hl [] rfl (Nat.le_of_ble_eq_true rfl) dX7_line_2 ⟨by decide, by decide⟩ ?_
  refine lv_if_ne (tgt := 10) hx hb dX7_line_5 (by decide) (fun c2 => ?_) (fun c2 => ?_)
  · replace h := md_f c2 h
    refine lv_iload_n hx hb dX7_line_10 rfl (lv_at hl 2 rfl) ?_
    refine lv_if_ne (tgt := 23) hx hb dX7_line_11 (by decide) (fun c3 => ?_) (fun c3 => ?_)
    · replace h := md_f c3 h
      refine lv_iload_n hx hb dX7_line_23 rfl (lv_at hl 2 rfl) ?_
      refine lv_iconst (v := 1) hx hb dX7_line_24 (by decide) ?_
      refine lv_icmp_ne (tgt := 37) hx hb dX7_line_25 (by decide) (fun c4 => ?_) (fun c4 => ?_)
      · replace h := md_f c4 h
        refine lv_iload_n hx hb dX7_line_37 rfl (lv_at hl 2 rfl) ?_
        refine lv_iconst (v := 2) hx hb dX7_line_38 (by decide) ?_
        refine lv_icmp_ne (tgt := 51) hx hb dX7_line_39 (by decide) (fun c5 => ?_) (fun c5 => ?_)
        · replace h := md_f c5 h
          refine lv_iload_n hx hb dX7_line_51 rfl (lv_at hl 2 rfl) ?_
          refine lv_iconst (v := 3) hx hb dX7_line_52 (by decide) ?_
          refine lv_icmp_ne (tgt := 65) hx hb dX7_line_53 (by decide) (fun c6 => ?_) (fun c6 => ?_)
          · replace h := md_f c6 h
            refine lv_bipush (v := -2) hx hb dX7_line_65 (by decide) ?_
            exact hQ (-2 : Int32) 67 ls h dX7_line_67
          replace h := md_t c6 h
          refine lv_aload_n hx hb dX7_line_56 rfl (lv_at hl 0 rfl) ?_
          refine va_get (D := D) (ci := 4) (v := .ref m_ofY_a) (C := RX7) (T := TX7) (N := 12) hx hb hts wi_X7_line_X7 hown hK hP 0 rfl rfl 5 (by decide) (hts _ wm_X7_line_0) (fun _ h9 => h9) rfl dX7_line_57 ?_
          refine lv_iload_n hx hb dX7_line_60 rfl (lv_at hl 1 rfl) ?_
          obtain ⟨hin7, h⟩ := md_g h
          refine va_iald hx hb hK hP 4 0 rfl rfl hin7 dX7_line_61 ?_
          refine lv_goto (tgt := 67) hx hb dX7_line_62 (by decide) ?_
          exact hQ (m_ofY (Int32.toNatClampNeg p1)) 67 ls h dX7_line_67
        replace h := md_t c5 h
        refine lv_aload_n hx hb dX7_line_42 rfl (lv_at hl 0 rfl) ?_
        refine va_get (D := D) (ci := 4) (v := .ref m_ofX_a) (C := RX7) (T := TX7) (N := 12) hx hb hts wi_X7_line_X7 hown hK hP 0 rfl rfl 4 (by decide) (hts _ wm_X7_line_1) (fun _ h9 => h9) rfl dX7_line_43 ?_
        refine lv_iload_n hx hb dX7_line_46 rfl (lv_at hl 1 rfl) ?_
        obtain ⟨hin8, h⟩ := md_g h
        refine va_iald hx hb hK hP 3 0 rfl rfl hin8 dX7_line_47 ?_
        refine lv_goto (tgt := 67) hx hb dX7_line_48 (by decide) ?_
        exact hQ (m_ofX (Int32.toNatClampNeg p1)) 67 ls h dX7_line_67
      replace h := md_t c4 h
      refine lv_aload_n hx hb dX7_line_28 rfl (lv_at hl 0 rfl) ?_
      refine va_get (D := D) (ci := 4) (v := .ref m_place_a) (C := RX7) (T := TX7) (N := 12) hx hb hts wi_X7_line_X7 hown hK hP 0 rfl rfl 3 (by decide) (hts _ wm_X7_line_2) (fun _ h9 => h9) rfl dX7_line_29 ?_
      refine lv_iload_n hx hb dX7_line_32 rfl (lv_at hl 1 rfl) ?_
      obtain ⟨hin9, h⟩ := md_g h
      refine va_iald hx hb hK hP 2 0 rfl rfl hin9 dX7_line_33 ?_
      refine lv_goto (tgt := 67) hx hb dX7_line_34 (by decide) ?_
      exact hQ (m_place (Int32.toNatClampNeg p1)) 67 ls h dX7_line_67
    replace h := md_t c3 h
    refine lv_aload_n hx hb dX7_line_14 rfl (lv_at hl 0 rfl) ?_
    refine va_get (D := D) (ci := 4) (v := .ref m_product_a) (C := RX7) (T := TX7) (N := 12) hx hb hts wi_X7_line_X7 hown hK hP 0 rfl rfl 2 (by decide) (hts _ wm_X7_line_3) (fun _ h9 => h9) rfl dX7_line_15 ?_
    refine lv_iload_n hx hb dX7_line_18 rfl (lv_at hl 1 rfl) ?_
    obtain ⟨hin10, h⟩ := md_g h
    refine va_iald hx hb hK hP 1 0 rfl rfl hin10 dX7_line_19 ?_
    refine lv_goto (tgt := 67) hx hb dX7_line_20 (by decide) ?_
    exact hQ (m_product (Int32.toNatClampNeg p1)) 67 ls h dX7_line_67
  replace h := md_t c2 h
  refine lv_iconst (v := -1) hx hb dX7_line_8 (by decide) ?_
  exact hQ (-1 : Int32) 9 ls h dX7_line_9
set_option maxHeartbeats 4000000 in
theorem ctX7_line (l : Launch) {D : va_G} {cI cT : ClassId} {mo m_product_a m_place_a m_ofX_a m_ofY_a m_step_a m_rows_a m_cell_a m_overs_a m_sure_a : Nat} {m_isWorked : Int32} {m_lines : Int32} {m_product : Nat → Int32} {m_place : Nat → Int32} {m_ofX : Nat → Int32} {m_ofY : Nat → Int32} {m_steps : Int32} {m_step : Nat → Int32} {m_rows : Nat → Int32} {m_cell : Nat → Int32} {m_overs : Nat → Int32} {m_sure : Nat → Int32} {p1 : Int32} {p2 : Int32} {res : Int32} (hm : mX7_line m_lines m_product m_place m_ofX m_ofY p1 p2 = some res) : Met l yX7_line wsX7_line rmX7_line (va_Pc [.ref mo, .int p1, .int p2] (kW D cI cT [(mo, .inr (4, [.int m_isWorked, .int m_lines, .ref m_product_a, .ref m_place_a, .ref m_ofX_a, .ref m_ofY_a, .int m_steps, .ref m_step_a, .ref m_rows_a, .ref m_cell_a, .ref m_overs_a, .ref m_sure_a])), (m_product_a, .inl (cI, 16, .inl m_product)), (m_place_a, .inl (cI, 16, .inl m_place)), (m_ofX_a, .inl (cI, 16, .inl m_ofX)), (m_ofY_a, .inl (cI, 16, .inl m_ofY)), (m_step_a, .inl (cI, 5, .inl m_step)), (m_rows_a, .inl (cI, 4, .inl m_rows)), (m_cell_a, .inl (cI, 96, .inl m_cell)), (m_overs_a, .inl (cI, 29, .inl m_overs)), (m_sure_a, .inl (cI, 24, .inl m_sure))] none (fun _ => False))) (kR (.int res)) 0 0 (fun _ => False) :=
  km (by decide) rfl (Nat.le_of_ble_eq_true rfl) (fun p e s m below meth c ls C hB hl => bX7_line C p1 p2 hB.1 m_isWorked m_lines m_product m_place m_ofX m_ofY m_steps m_step m_rows m_cell m_overs m_sure hB.2.1 res (fun v pc ls h hd => kr_i C h hd) hm ls hl)
theorem wm_X7_lineOf_0 : Cond.fieldLink RX7 7 "SixtyTabletModel" "product" "[I" ∈ wsX7_lineOf := by decide +kernel
theorem wm_X7_lineOf_1 : Cond.fieldLink RX7 13 "SixtyTabletModel" "place" "[I" ∈ wsX7_lineOf := by decide +kernel
theorem wi_X7_lineOf_X7 : ∀ w ∈ wsX70, w ∈ wsX7_lineOf := by decide +kernel
theorem kdvX7_lineOf : yX7_lineOf.cls = RX7 ∧ yX7_lineOf.cls ≠ "java/lang/invoke/MethodHandle" ∧ yX7_lineOf.cls ≠ "java/lang/invoke/VarHandle" ∧ (parseMethodDescriptor yX7_lineOf.desc).map (fun d => d.parameters.length) = some 1 := by decide +kernel
abbrev rmX7_lineOf : Room := { frames := 1, cells := 0, slots := 0, locals := 23 }
def mX7_lineOf (m_product : Nat → Int32) (m_place : Nat → Int32) (p1 : Int32) : Option Int64 := (if p1 < 0 ∨ 16 ≤ (Int32.toNatClampNeg p1) then none else (if p1 < 0 ∨ 16 ≤ (Int32.toNatClampNeg p1) then none else (Option.bind (mX7_power (m_place (Int32.toNatClampNeg p1))) (fun u3 => (some ((Int32.toInt64 (m_product (Int32.toNatClampNeg p1))) * u3))))))
set_option maxHeartbeats 4000000 in
set_option maxRecDepth 100000 in
theorem bX7_lineOf {p : Program} {l : Launch} {e : Env} {s : State} {m : MethodId} {args : Array Value} {below : List Frame} {meth : Method} {c : Code} {Q : State → Prop} (C : kc p s m args meth c cX7_lineOf 2 RX7 yX7_lineOf.name wsX7_lineOf (some .long)) {D : va_G} {cI cT : ClassId} {mo m_product_a m_place_a m_ofX_a m_ofY_a m_step_a m_rows_a m_cell_a m_overs_a m_sure_a : Nat} (p1 : Int32) (hK : va_K D vwCl (kTy cI cT) s) (m_isWorked : Int32) (m_lines : Int32) (m_product : Nat → Int32) (m_place : Nat → Int32) (m_ofX : Nat → Int32) (m_ofY : Nat → Int32) (m_steps : Int32) (m_step : Nat → Int32) (m_rows : Nat → Int32) (m_cell : Nat → Int32) (m_overs : Nat → Int32) (m_sure : Nat → Int32) (hP : va_P D vwCl [(mo, .inr (4, [.int m_isWorked, .int m_lines, .ref m_product_a, .ref m_place_a, .ref m_ofX_a, .ref m_ofY_a, .int m_steps, .ref m_step_a, .ref m_rows_a, .ref m_cell_a, .ref m_overs_a, .ref m_sure_a])), (m_product_a, .inl (cI, 16, .inl m_product)), (m_place_a, .inl (cI, 16, .inl m_place)), (m_ofX_a, .inl (cI, 16, .inl m_ofX)), (m_ofY_a, .inl (cI, 16, .inl m_ofY)), (m_step_a, .inl (cI, 5, .inl m_step)), (m_rows_a, .inl (cI, 4, .inl m_rows)), (m_cell_a, .inl (cI, 96, .inl m_cell)), (m_overs_a, .inl (cI, 29, .inl m_overs)), (m_sure_a, .inl (cI, 24, .inl m_sure))] s.heap) (res : Int64) (hQ : ∀ (v : Int64) (pc : Nat) (ls : Array Slot), some v = some res → decode cX7_lineOf pc = .ok (.lreturn, 1) → W p l e rmX7_lineOf s m args below meth c s.heap [] 0 0 Q (F0 m pc ls [.long v])) : mX7_lineOf m_product m_place p1 = some res → ∀ (ls : Array Slot), lv_has ls 2 [(0, .ref mo), (1, .int p1)] → W p l e rmX7_lineOf s m args below meth c s.heap [] 0 0 Q (F0 m 0 ls []) := by
  intro h ls hl
  have C0 := C
  obtain ⟨hx, hb, hml, hown, hts, hr, hlk, hnm⟩ := C0
  rw [mX7_lineOf] at h
  refine lv_aload_n hx hb dX7_lineOf_0 rfl (lv_at hl 0 rfl) ?_
  refine va_get (D := D) (ci := 4) (v := .ref m_product_a) (C := RX7) (T := TX7) (N := 12) hx hb hts wi_X7_lineOf_X7 hown hK hP 0 rfl rfl 2 (by decide) (hts _ wm_X7_lineOf_0) (fun _ h9 => h9) rfl dX7_lineOf_1 ?_
  refine lv_iload_n hx hb dX7_lineOf_4 rfl (lv_at hl 1 rfl) ?_
  obtain ⟨hin1, h⟩ := md_g h
  refine va_iald hx hb hK hP 1 0 rfl rfl hin1 dX7_lineOf_5 ?_
  refine lv_i2l hx hb dX7_lineOf_6 rfl ?_
  refine lv_aload_n hx hb dX7_lineOf_7 rfl (lv_at hl 0 rfl) ?_
  refine va_get (D := D) (ci := 4) (v := .ref m_place_a) (C := RX7) (T := TX7) (N := 12) hx hb hts wi_X7_lineOf_X7 hown hK hP 0 rfl rfl 3 (by decide) (hts _ wm_X7_lineOf_1) (fun _ h9 => h9) rfl dX7_lineOf_8 ?_
  refine lv_iload_n hx hb dX7_lineOf_11 rfl (lv_at hl 1 rfl) ?_
  obtain ⟨hin2, h⟩ := md_g h
  refine va_iald hx hb hK hP 2 0 rfl rfl hin2 dX7_lineOf_12 ?_
  obtain ⟨u3, hu3, h⟩ := md_b h
  refine kS C (ctX7_power l  hu3) gX7_lineOf_X7_power rfl kdX7_power ⟨rfl, rfl⟩ ⟨by decide, by decide⟩ kT_blind (fun _ _ _ => trivial) rfl hl [.long (Int32.toInt64 (m_product (Int32.toNatClampNeg p1)))] rfl (Nat.le_of_ble_eq_true rfl) dX7_lineOf_13 ⟨by decide, by decide⟩ ?_
  refine lv_lmul hx hb dX7_lineOf_16 ?_
  exact hQ ((Int32.toInt64 (m_product (Int32.toNatClampNeg p1))) * u3) 17 ls h dX7_lineOf_17
set_option maxHeartbeats 4000000 in
theorem ctX7_lineOf (l : Launch) {D : va_G} {cI cT : ClassId} {mo m_product_a m_place_a m_ofX_a m_ofY_a m_step_a m_rows_a m_cell_a m_overs_a m_sure_a : Nat} {m_isWorked : Int32} {m_lines : Int32} {m_product : Nat → Int32} {m_place : Nat → Int32} {m_ofX : Nat → Int32} {m_ofY : Nat → Int32} {m_steps : Int32} {m_step : Nat → Int32} {m_rows : Nat → Int32} {m_cell : Nat → Int32} {m_overs : Nat → Int32} {m_sure : Nat → Int32} {p1 : Int32} {res : Int64} (hm : mX7_lineOf m_product m_place p1 = some res) : Met l yX7_lineOf wsX7_lineOf rmX7_lineOf (va_Pc [.ref mo, .int p1] (kW D cI cT [(mo, .inr (4, [.int m_isWorked, .int m_lines, .ref m_product_a, .ref m_place_a, .ref m_ofX_a, .ref m_ofY_a, .int m_steps, .ref m_step_a, .ref m_rows_a, .ref m_cell_a, .ref m_overs_a, .ref m_sure_a])), (m_product_a, .inl (cI, 16, .inl m_product)), (m_place_a, .inl (cI, 16, .inl m_place)), (m_ofX_a, .inl (cI, 16, .inl m_ofX)), (m_ofY_a, .inl (cI, 16, .inl m_ofY)), (m_step_a, .inl (cI, 5, .inl m_step)), (m_rows_a, .inl (cI, 4, .inl m_rows)), (m_cell_a, .inl (cI, 96, .inl m_cell)), (m_overs_a, .inl (cI, 29, .inl m_overs)), (m_sure_a, .inl (cI, 24, .inl m_sure))] none (fun _ => False))) (kR (.long res)) 0 0 (fun _ => False) :=
  km (by decide) rfl (Nat.le_of_ble_eq_true rfl) (fun p e s m below meth c ls C hB hl => bX7_lineOf C p1 hB.1 m_isWorked m_lines m_product m_place m_ofX m_ofY m_steps m_step m_rows m_cell m_overs m_sure hB.2.1 res (fun v pc ls h hd => kr_l C h hd) hm ls hl)
theorem kdvX7_sumOf : yX7_sumOf.cls = RX7 ∧ yX7_sumOf.cls ≠ "java/lang/invoke/MethodHandle" ∧ yX7_sumOf.cls ≠ "java/lang/invoke/VarHandle" ∧ (parseMethodDescriptor yX7_sumOf.desc).map (fun d => d.parameters.length) = some 1 := by decide +kernel
abbrev rmX7_sumOf : Room := { frames := 2, cells := 0, slots := 0, locals := 44 }
def mlX7_sumOf_5 (x1 : Int32) (m_product : Nat → Int32) (m_place : Nat → Int32) (kE : Int64 → Option Int64) : Nat → Int64 → Int32 → Option Int64
  | 0, _, _ => none
  | n + 1, x2, x4 => (if x1 < x4 then (kE x2) else (Option.bind (mX7_lineOf m_product m_place x4) (fun u2 => (md_let (x2 + u2) (fun (x2_3 : Int64) => (md_let (x4 + (1 : Int32)) (fun (x4_4 : Int32) => (mlX7_sumOf_5 x1 m_product m_place kE n x2_3 x4_4))))))))
set_option maxHeartbeats 4000000 in
set_option maxRecDepth 100000 in
theorem lX7_sumOf_5 {p : Program} {l : Launch} {e : Env} {s : State} {m : MethodId} {args : Array Value} {below : List Frame} {meth : Method} {c : Code} {Q : State → Prop} (C : kc p s m args meth c cX7_sumOf 5 RX7 yX7_sumOf.name wsX7_sumOf (some .long)) {D : va_G} {cI cT : ClassId} {mo m_product_a m_place_a m_ofX_a m_ofY_a m_step_a m_rows_a m_cell_a m_overs_a m_sure_a : Nat} (hK : va_K D vwCl (kTy cI cT) s) (x1 : Int32) (m_isWorked : Int32) (m_lines : Int32) (m_product : Nat → Int32) (m_place : Nat → Int32) (m_ofX : Nat → Int32) (m_ofY : Nat → Int32) (m_steps : Int32) (m_step : Nat → Int32) (m_rows : Nat → Int32) (m_cell : Nat → Int32) (m_overs : Nat → Int32) (m_sure : Nat → Int32) (hP : va_P D vwCl [(mo, .inr (4, [.int m_isWorked, .int m_lines, .ref m_product_a, .ref m_place_a, .ref m_ofX_a, .ref m_ofY_a, .int m_steps, .ref m_step_a, .ref m_rows_a, .ref m_cell_a, .ref m_overs_a, .ref m_sure_a])), (m_product_a, .inl (cI, 16, .inl m_product)), (m_place_a, .inl (cI, 16, .inl m_place)), (m_ofX_a, .inl (cI, 16, .inl m_ofX)), (m_ofY_a, .inl (cI, 16, .inl m_ofY)), (m_step_a, .inl (cI, 5, .inl m_step)), (m_rows_a, .inl (cI, 4, .inl m_rows)), (m_cell_a, .inl (cI, 96, .inl m_cell)), (m_overs_a, .inl (cI, 29, .inl m_overs)), (m_sure_a, .inl (cI, 24, .inl m_sure))] s.heap) (res : Int64) (hQ : ∀ (v : Int64) (pc : Nat) (ls : Array Slot), some v = some res → decode cX7_sumOf pc = .ok (.lreturn, 1) → W p l e rmX7_sumOf s m args below meth c s.heap [] 0 0 Q (F0 m pc ls [.long v])) (kE : Int64 → Option Int64) (hE : ∀ (y2 : Int64), kE y2 = some res → ∀ (ls : Array Slot), lv_has ls 5 [(2, .long y2)] → W p l e rmX7_sumOf s m args below meth c s.heap [] 0 0 Q (F0 m 26 ls [])) : ∀ (n : Nat), ∀ (x2 : Int64) (x4 : Int32), mlX7_sumOf_5 x1 m_product m_place kE n x2 x4 = some res → ∀ (ls : Array Slot), lv_has ls 5 [(0, .ref mo), (1, .int x1), (2, .long x2), (4, .int x4)] → W p l e rmX7_sumOf s m args below meth c s.heap [] 0 0 Q (F0 m 5 ls []) := by
  have C0 := C
  obtain ⟨hx, hb, hml, hown, hts, hr, hlk, hnm⟩ := C0
  intro n
  induction n with
  | zero => intro _ _ h; exact md_x h
  | succ n ih =>
    intro x2 x4 h ls hl
    rw [mlX7_sumOf_5] at h
    refine lv_iload hx hb dX7_sumOf_5 (lv_at hl 3 rfl) ?_
    refine lv_iload_n hx hb dX7_sumOf_7 rfl (lv_at hl 1 rfl) ?_
    refine lv_icmp_gt (tgt := 26) hx hb dX7_sumOf_8 (by decide) (fun c1 => ?_) (fun c1 => ?_)
    · replace h := md_t c1 h
      exact hE x2 h ls (lv_sub hl [2] rfl)
    replace h := md_f c1 h
    refine lv_lload_n hx hb dX7_sumOf_11 rfl (lv_at hl 2 rfl) ?_
    refine lv_aload_n hx hb dX7_sumOf_12 rfl (lv_at hl 0 rfl) ?_
    refine lv_iload hx hb dX7_sumOf_13 (lv_at hl 3 rfl) ?_
    obtain ⟨u2, hu2, h⟩ := md_b h
    refine kV C (ctX7_lineOf l  hu2) gX7_sumOf_X7_lineOf rfl kdvX7_lineOf ⟨rfl, rfl⟩ ⟨by decide, by decide⟩ kW_blind (va_recv hK hP (ci := 4) (q0 := 0) rfl rfl) (kW_use hK (hP.sub (ws' := [(mo, .inr (4, [.int m_isWorked, .int m_lines, .ref m_product_a, .ref m_place_a, .ref m_ofX_a, .ref m_ofY_a, .int m_steps, .ref m_step_a, .ref m_rows_a, .ref m_cell_a, .ref m_overs_a, .ref m_sure_a])), (m_product_a, .inl (cI, 16, .inl m_product)), (m_place_a, .inl (cI, 16, .inl m_place)), (m_ofX_a, .inl (cI, 16, .inl m_ofX)), (m_ofY_a, .inl (cI, 16, .inl m_ofY)), (m_step_a, .inl (cI, 5, .inl m_step)), (m_rows_a, .inl (cI, 4, .inl m_rows)), (m_cell_a, .inl (cI, 96, .inl m_cell)), (m_overs_a, .inl (cI, 29, .inl m_overs)), (m_sure_a, .inl (cI, 24, .inl m_sure))]) [0, 1, 2, 3, 4, 5, 6, 7, 8, 9] rfl) kL_no) rfl hl [.long x2] rfl (Nat.le_of_ble_eq_true rfl) dX7_sumOf_15 ⟨by decide, by decide⟩ ?_
    refine lv_ladd hx hb dX7_sumOf_18 ?_
    refine lv_topl (fun x2_3 ex2_3 => ?_)
    replace h := md_le ex2_3 h
    refine lv_lstore_n (lv' := [(2, .long x2_3), (0, .ref mo), (1, .int x1), (4, .int x4)]) hx hb dX7_sumOf_19 rfl hl (by decide) rfl (fun ls hl => ?_)
    obtain ⟨x4_4, ex4_4⟩ : ∃ y : Int32, y = (x4 + (1 : Int32)) := ⟨_, rfl⟩
    replace h := md_le ex4_4 h
    refine lv_iinc (v := x4_4) (lv' := [(4, .int x4_4), (2, .long x2_3), (0, .ref mo), (1, .int x1)]) hx hb dX7_sumOf_20 hl (k := 3) rfl (by rw [ex4_4]; rfl) (by decide) rfl (fun ls hl => ?_)
    refine lv_goto (tgt := 5) hx hb dX7_sumOf_23 (by decide) ?_
    exact ih x2_3 x4_4 h ls (lv_sub hl [2, 3, 1, 0] rfl)
def mX7_sumOf (m_product : Nat → Int32) (m_place : Nat → Int32) (p1 : Int32) : Option Int64 := (mlX7_sumOf_5 p1 m_product m_place (fun (y2_26 : Int64) => (some y2_26)) kN (0 : Int64) (0 : Int32))
set_option maxHeartbeats 4000000 in
set_option maxRecDepth 100000 in
theorem bX7_sumOf {p : Program} {l : Launch} {e : Env} {s : State} {m : MethodId} {args : Array Value} {below : List Frame} {meth : Method} {c : Code} {Q : State → Prop} (C : kc p s m args meth c cX7_sumOf 5 RX7 yX7_sumOf.name wsX7_sumOf (some .long)) {D : va_G} {cI cT : ClassId} {mo m_product_a m_place_a m_ofX_a m_ofY_a m_step_a m_rows_a m_cell_a m_overs_a m_sure_a : Nat} (p1 : Int32) (hK : va_K D vwCl (kTy cI cT) s) (m_isWorked : Int32) (m_lines : Int32) (m_product : Nat → Int32) (m_place : Nat → Int32) (m_ofX : Nat → Int32) (m_ofY : Nat → Int32) (m_steps : Int32) (m_step : Nat → Int32) (m_rows : Nat → Int32) (m_cell : Nat → Int32) (m_overs : Nat → Int32) (m_sure : Nat → Int32) (hP : va_P D vwCl [(mo, .inr (4, [.int m_isWorked, .int m_lines, .ref m_product_a, .ref m_place_a, .ref m_ofX_a, .ref m_ofY_a, .int m_steps, .ref m_step_a, .ref m_rows_a, .ref m_cell_a, .ref m_overs_a, .ref m_sure_a])), (m_product_a, .inl (cI, 16, .inl m_product)), (m_place_a, .inl (cI, 16, .inl m_place)), (m_ofX_a, .inl (cI, 16, .inl m_ofX)), (m_ofY_a, .inl (cI, 16, .inl m_ofY)), (m_step_a, .inl (cI, 5, .inl m_step)), (m_rows_a, .inl (cI, 4, .inl m_rows)), (m_cell_a, .inl (cI, 96, .inl m_cell)), (m_overs_a, .inl (cI, 29, .inl m_overs)), (m_sure_a, .inl (cI, 24, .inl m_sure))] s.heap) (res : Int64) (hQ : ∀ (v : Int64) (pc : Nat) (ls : Array Slot), some v = some res → decode cX7_sumOf pc = .ok (.lreturn, 1) → W p l e rmX7_sumOf s m args below meth c s.heap [] 0 0 Q (F0 m pc ls [.long v])) : mX7_sumOf m_product m_place p1 = some res → ∀ (ls : Array Slot), lv_has ls 5 [(0, .ref mo), (1, .int p1)] → W p l e rmX7_sumOf s m args below meth c s.heap [] 0 0 Q (F0 m 0 ls []) := by
  intro h ls hl
  have C0 := C
  obtain ⟨hx, hb, hml, hown, hts, hr, hlk, hnm⟩ := C0
  rw [mX7_sumOf] at h
  refine lv_lconst (v := 0) hx hb dX7_sumOf_0 (by decide) ?_
  refine lv_lstore_n (lv' := [(2, .long (0 : Int64)), (0, .ref mo), (1, .int p1)]) hx hb dX7_sumOf_1 rfl hl (by decide) rfl (fun ls hl => ?_)
  refine lv_iconst (v := 0) hx hb dX7_sumOf_2 (by decide) ?_
  refine lv_istore (lv' := [(4, .int (0 : Int32)), (2, .long (0 : Int64)), (0, .ref mo), (1, .int p1)]) hx hb dX7_sumOf_3 hl (by decide) rfl (fun ls hl => ?_)
  refine lX7_sumOf_5 (mo := mo) (m_product_a := m_product_a) (m_place_a := m_place_a) (m_ofX_a := m_ofX_a) (m_ofY_a := m_ofY_a) (m_step_a := m_step_a) (m_rows_a := m_rows_a) (m_cell_a := m_cell_a) (m_overs_a := m_overs_a) (m_sure_a := m_sure_a) C hK p1 m_isWorked m_lines m_product m_place m_ofX m_ofY m_steps m_step m_rows m_cell m_overs m_sure hP res hQ _ (fun y2_26 h ls hl => ?_) kN (0 : Int64) (0 : Int32) h ls (lv_sub hl [2, 3, 1, 0] rfl)
  refine lv_lload_n hx hb dX7_sumOf_26 rfl (lv_at hl 0 rfl) ?_
  exact hQ y2_26 27 ls h dX7_sumOf_27
set_option maxHeartbeats 4000000 in
theorem ctX7_sumOf (l : Launch) {D : va_G} {cI cT : ClassId} {mo m_product_a m_place_a m_ofX_a m_ofY_a m_step_a m_rows_a m_cell_a m_overs_a m_sure_a : Nat} {m_isWorked : Int32} {m_lines : Int32} {m_product : Nat → Int32} {m_place : Nat → Int32} {m_ofX : Nat → Int32} {m_ofY : Nat → Int32} {m_steps : Int32} {m_step : Nat → Int32} {m_rows : Nat → Int32} {m_cell : Nat → Int32} {m_overs : Nat → Int32} {m_sure : Nat → Int32} {p1 : Int32} {res : Int64} (hm : mX7_sumOf m_product m_place p1 = some res) : Met l yX7_sumOf wsX7_sumOf rmX7_sumOf (va_Pc [.ref mo, .int p1] (kW D cI cT [(mo, .inr (4, [.int m_isWorked, .int m_lines, .ref m_product_a, .ref m_place_a, .ref m_ofX_a, .ref m_ofY_a, .int m_steps, .ref m_step_a, .ref m_rows_a, .ref m_cell_a, .ref m_overs_a, .ref m_sure_a])), (m_product_a, .inl (cI, 16, .inl m_product)), (m_place_a, .inl (cI, 16, .inl m_place)), (m_ofX_a, .inl (cI, 16, .inl m_ofX)), (m_ofY_a, .inl (cI, 16, .inl m_ofY)), (m_step_a, .inl (cI, 5, .inl m_step)), (m_rows_a, .inl (cI, 4, .inl m_rows)), (m_cell_a, .inl (cI, 96, .inl m_cell)), (m_overs_a, .inl (cI, 29, .inl m_overs)), (m_sure_a, .inl (cI, 24, .inl m_sure))] none (fun _ => False))) (kR (.long res)) 0 0 (fun _ => False) :=
  km (by decide) rfl (Nat.le_of_ble_eq_true rfl) (fun p e s m below meth c ls C hB hl => bX7_sumOf C p1 hB.1 m_isWorked m_lines m_product m_place m_ofX m_ofY m_steps m_step m_rows m_cell m_overs m_sure hB.2.1 res (fun v pc ls h hd => kr_l C h hd) hm ls hl)
theorem wm_X7_sum_0 : Cond.constantLong RX7 140 (-1000000000000000001) ∈ wsX7_sum := by decide +kernel
theorem kdvX7_sum : yX7_sum.cls = RX7 ∧ yX7_sum.cls ≠ "java/lang/invoke/MethodHandle" ∧ yX7_sum.cls ≠ "java/lang/invoke/VarHandle" ∧ (parseMethodDescriptor yX7_sum.desc).map (fun d => d.parameters.length) = some 1 := by decide +kernel
abbrev rmX7_sum : Room := { frames := 3, cells := 0, slots := 0, locals := 68 }
def mX7_sum (m_lines : Int32) (m_product : Nat → Int32) (m_place : Nat → Int32) (p1 : Int32) : Option Int64 := (Option.bind (mX7_isLine m_lines p1) (fun u1 => (if u1 = 0 then (some (-1000000000000000001 : Int64)) else (Option.bind (mX7_sumOf m_product m_place p1) (fun u3 => (some u3))))))
set_option maxHeartbeats 4000000 in
set_option maxRecDepth 100000 in
theorem bX7_sum {p : Program} {l : Launch} {e : Env} {s : State} {m : MethodId} {args : Array Value} {below : List Frame} {meth : Method} {c : Code} {Q : State → Prop} (C : kc p s m args meth c cX7_sum 2 RX7 yX7_sum.name wsX7_sum (some .long)) {D : va_G} {cI cT : ClassId} {mo m_product_a m_place_a m_ofX_a m_ofY_a m_step_a m_rows_a m_cell_a m_overs_a m_sure_a : Nat} (p1 : Int32) (hK : va_K D vwCl (kTy cI cT) s) (m_isWorked : Int32) (m_lines : Int32) (m_product : Nat → Int32) (m_place : Nat → Int32) (m_ofX : Nat → Int32) (m_ofY : Nat → Int32) (m_steps : Int32) (m_step : Nat → Int32) (m_rows : Nat → Int32) (m_cell : Nat → Int32) (m_overs : Nat → Int32) (m_sure : Nat → Int32) (hP : va_P D vwCl [(mo, .inr (4, [.int m_isWorked, .int m_lines, .ref m_product_a, .ref m_place_a, .ref m_ofX_a, .ref m_ofY_a, .int m_steps, .ref m_step_a, .ref m_rows_a, .ref m_cell_a, .ref m_overs_a, .ref m_sure_a])), (m_product_a, .inl (cI, 16, .inl m_product)), (m_place_a, .inl (cI, 16, .inl m_place)), (m_ofX_a, .inl (cI, 16, .inl m_ofX)), (m_ofY_a, .inl (cI, 16, .inl m_ofY)), (m_step_a, .inl (cI, 5, .inl m_step)), (m_rows_a, .inl (cI, 4, .inl m_rows)), (m_cell_a, .inl (cI, 96, .inl m_cell)), (m_overs_a, .inl (cI, 29, .inl m_overs)), (m_sure_a, .inl (cI, 24, .inl m_sure))] s.heap) (res : Int64) (hQ : ∀ (v : Int64) (pc : Nat) (ls : Array Slot), some v = some res → decode cX7_sum pc = .ok (.lreturn, 1) → W p l e rmX7_sum s m args below meth c s.heap [] 0 0 Q (F0 m pc ls [.long v])) : mX7_sum m_lines m_product m_place p1 = some res → ∀ (ls : Array Slot), lv_has ls 2 [(0, .ref mo), (1, .int p1)] → W p l e rmX7_sum s m args below meth c s.heap [] 0 0 Q (F0 m 0 ls []) := by
  intro h ls hl
  have C0 := C
  obtain ⟨hx, hb, hml, hown, hts, hr, hlk, hnm⟩ := C0
  rw [mX7_sum] at h
  refine lv_aload_n hx hb dX7_sum_0 rfl (lv_at hl 0 rfl) ?_
  refine lv_iload_n hx hb dX7_sum_1 rfl (lv_at hl 1 rfl) ?_
  obtain ⟨u1, hu1, h⟩ := md_b h
  refine kV C (ctX7_isLine l  hu1) gX7_sum_X7_isLine rfl kdvX7_isLine ⟨rfl, rfl⟩ ⟨by decide, by decide⟩ kW_blind (va_recv hK hP (ci := 4) (q0 := 0) rfl rfl) (kW_use hK (hP.sub (ws' := [(mo, .inr (4, [.int m_isWorked, .int m_lines, .ref m_product_a, .ref m_place_a, .ref m_ofX_a, .ref m_ofY_a, .int m_steps, .ref m_step_a, .ref m_rows_a, .ref m_cell_a, .ref m_overs_a, .ref m_sure_a])), (m_product_a, .inl (cI, 16, .inl m_product)), (m_place_a, .inl (cI, 16, .inl m_place)), (m_ofX_a, .inl (cI, 16, .inl m_ofX)), (m_ofY_a, .inl (cI, 16, .inl m_ofY)), (m_step_a, .inl (cI, 5, .inl m_step)), (m_rows_a, .inl (cI, 4, .inl m_rows)), (m_cell_a, .inl (cI, 96, .inl m_cell)), (m_overs_a, .inl (cI, 29, .inl m_overs)), (m_sure_a, .inl (cI, 24, .inl m_sure))]) [0, 1, 2, 3, 4, 5, 6, 7, 8, 9] rfl) kL_no) rfl hl [] rfl (Nat.le_of_ble_eq_true rfl) dX7_sum_2 ⟨by decide, by decide⟩ ?_
  refine lv_if_eq (tgt := 16) hx hb dX7_sum_5 (by decide) (fun c2 => ?_) (fun c2 => ?_)
  · replace h := md_t c2 h
    refine lv_ldc2 hx hb hown (hts _ wm_X7_sum_0) dX7_sum_16 ?_
    exact hQ (-1000000000000000001 : Int64) 19 ls h dX7_sum_19
  replace h := md_f c2 h
  refine lv_aload_n hx hb dX7_sum_8 rfl (lv_at hl 0 rfl) ?_
  refine lv_iload_n hx hb dX7_sum_9 rfl (lv_at hl 1 rfl) ?_
  obtain ⟨u3, hu3, h⟩ := md_b h
  refine kV C (ctX7_sumOf l  hu3) gX7_sum_X7_sumOf rfl kdvX7_sumOf ⟨rfl, rfl⟩ ⟨by decide, by decide⟩ kW_blind (va_recv hK hP (ci := 4) (q0 := 0) rfl rfl) (kW_use hK (hP.sub (ws' := [(mo, .inr (4, [.int m_isWorked, .int m_lines, .ref m_product_a, .ref m_place_a, .ref m_ofX_a, .ref m_ofY_a, .int m_steps, .ref m_step_a, .ref m_rows_a, .ref m_cell_a, .ref m_overs_a, .ref m_sure_a])), (m_product_a, .inl (cI, 16, .inl m_product)), (m_place_a, .inl (cI, 16, .inl m_place)), (m_ofX_a, .inl (cI, 16, .inl m_ofX)), (m_ofY_a, .inl (cI, 16, .inl m_ofY)), (m_step_a, .inl (cI, 5, .inl m_step)), (m_rows_a, .inl (cI, 4, .inl m_rows)), (m_cell_a, .inl (cI, 96, .inl m_cell)), (m_overs_a, .inl (cI, 29, .inl m_overs)), (m_sure_a, .inl (cI, 24, .inl m_sure))]) [0, 1, 2, 3, 4, 5, 6, 7, 8, 9] rfl) kL_no) rfl hl [] rfl (Nat.le_of_ble_eq_true rfl) dX7_sum_10 ⟨by decide, by decide⟩ ?_
  refine lv_goto (tgt := 19) hx hb dX7_sum_13 (by decide) ?_
  exact hQ u3 19 ls h dX7_sum_19
set_option maxHeartbeats 4000000 in
theorem ctX7_sum (l : Launch) {D : va_G} {cI cT : ClassId} {mo m_product_a m_place_a m_ofX_a m_ofY_a m_step_a m_rows_a m_cell_a m_overs_a m_sure_a : Nat} {m_isWorked : Int32} {m_lines : Int32} {m_product : Nat → Int32} {m_place : Nat → Int32} {m_ofX : Nat → Int32} {m_ofY : Nat → Int32} {m_steps : Int32} {m_step : Nat → Int32} {m_rows : Nat → Int32} {m_cell : Nat → Int32} {m_overs : Nat → Int32} {m_sure : Nat → Int32} {p1 : Int32} {res : Int64} (hm : mX7_sum m_lines m_product m_place p1 = some res) : Met l yX7_sum wsX7_sum rmX7_sum (va_Pc [.ref mo, .int p1] (kW D cI cT [(mo, .inr (4, [.int m_isWorked, .int m_lines, .ref m_product_a, .ref m_place_a, .ref m_ofX_a, .ref m_ofY_a, .int m_steps, .ref m_step_a, .ref m_rows_a, .ref m_cell_a, .ref m_overs_a, .ref m_sure_a])), (m_product_a, .inl (cI, 16, .inl m_product)), (m_place_a, .inl (cI, 16, .inl m_place)), (m_ofX_a, .inl (cI, 16, .inl m_ofX)), (m_ofY_a, .inl (cI, 16, .inl m_ofY)), (m_step_a, .inl (cI, 5, .inl m_step)), (m_rows_a, .inl (cI, 4, .inl m_rows)), (m_cell_a, .inl (cI, 96, .inl m_cell)), (m_overs_a, .inl (cI, 29, .inl m_overs)), (m_sure_a, .inl (cI, 24, .inl m_sure))] none (fun _ => False))) (kR (.long res)) 0 0 (fun _ => False) :=
  km (by decide) rfl (Nat.le_of_ble_eq_true rfl) (fun p e s m below meth c ls C hB hl => bX7_sum C p1 hB.1 m_isWorked m_lines m_product m_place m_ofX m_ofY m_steps m_step m_rows m_cell m_overs m_sure hB.2.1 res (fun v pc ls h hd => kr_l C h hd) hm ls hl)
theorem wm_X7_slipped_0 : Cond.fieldLink RX7 7 "SixtyTabletModel" "product" "[I" ∈ wsX7_slipped := by decide +kernel
theorem wm_X7_slipped_1 : Cond.fieldLink RX7 13 "SixtyTabletModel" "place" "[I" ∈ wsX7_slipped := by decide +kernel
theorem wm_X7_slipped_2 : Cond.constantLong RX7 142 (-6) ∈ wsX7_slipped := by decide +kernel
theorem wm_X7_slipped_3 : Cond.constantLong RX7 144 (59) ∈ wsX7_slipped := by decide +kernel
theorem wm_X7_slipped_4 : Cond.fieldLink RX7 16 "SixtyTabletModel" "ofX" "[I" ∈ wsX7_slipped := by decide +kernel
theorem wm_X7_slipped_5 : Cond.fieldLink RX7 19 "SixtyTabletModel" "ofY" "[I" ∈ wsX7_slipped := by decide +kernel
theorem wi_X7_slipped_X7 : ∀ w ∈ wsX70, w ∈ wsX7_slipped := by decide +kernel
theorem kdvX7_slipped : yX7_slipped.cls = RX7 ∧ yX7_slipped.cls ≠ "java/lang/invoke/MethodHandle" ∧ yX7_slipped.cls ≠ "java/lang/invoke/VarHandle" ∧ (parseMethodDescriptor yX7_slipped.desc).map (fun d => d.parameters.length) = some 3 := by decide +kernel
abbrev rmX7_slipped : Room := { frames := 1, cells := 0, slots := 0, locals := 25 }
def mX7_slipped (m_product : Nat → Int32) (m_place : Nat → Int32) (m_ofX : Nat → Int32) (m_ofY : Nat → Int32) (p1 : Int32) (p2 : Int32) (p3 : Int32) : Option Int64 := (if p1 < 0 ∨ 16 ≤ (Int32.toNatClampNeg p1) then none else (md_let ((m_product (Int32.toNatClampNeg p1)) / (60 : Int32)) (fun (x4_2 : Int32) => (if p1 < 0 ∨ 16 ≤ (Int32.toNatClampNeg p1) then none else (md_let ((m_product (Int32.toNatClampNeg p1)) - (m_product (Int32.toNatClampNeg p1)) / (60 : Int32) * (60 : Int32)) (fun (x5_4 : Int32) => (md_jn (fun (x6_227 : Int32) => (if 0 ≤ x6_227 then (if p1 < 0 ∨ 16 ≤ (Int32.toNatClampNeg p1) then none else (Option.bind (mX7_power (m_place (Int32.toNatClampNeg p1))) (fun u7 => (some ((Int32.toInt64 x6_227) * u7))))) else (some (-6 : Int64)))) (fun kJ227 => (if p2 = 0 then (md_jn (fun (z0_66 : Int32) => (kJ227 z0_66)) (fun kJ66 => (md_jn (fun (u_44 : Unit) => (md_jn (fun (u_64 : Unit) => (kJ66 (-6 : Int32))) (fun kJ64 => (if p3 = (1 : Int32) then (if x4_2 ≤ 0 then (kJ64 ()) else (if x5_4 ≤ 0 then (kJ64 ()) else (kJ66 x4_2))) else (kJ64 ()))))) (fun kJ44 => (if p3 = 0 then (if x4_2 ≤ 0 then (kJ44 ()) else (kJ66 x5_4)) else (kJ44 ())))))) else (if p2 = (1 : Int32) then (if p3 = 0 then (if p1 < 0 ∨ 16 ≤ (Int32.toNatClampNeg p1) then none else (if (m_place (Int32.toNatClampNeg p1)) ≤ 0 then (some (-6 : Int64)) else (if p1 < 0 ∨ 16 ≤ (Int32.toNatClampNeg p1) then none else (if p1 < 0 ∨ 16 ≤ (Int32.toNatClampNeg p1) then none else (Option.bind (mX7_power ((m_place (Int32.toNatClampNeg p1)) - (1 : Int32))) (fun u26 => (some ((Int32.toInt64 (m_product (Int32.toNatClampNeg p1))) * u26)))))))) else (some (-6 : Int64))) else (if p2 = (2 : Int32) then (md_jn (fun (z0_143 : Int32) => (Option.bind (mX7_in (Int32.toInt64 z0_143) (1 : Int64) (59 : Int64)) (fun u15 => (md_jn (fun (z0_172 : Int32) => (kJ227 z0_172)) (fun kJ172 => (if u15 = 0 then (kJ172 (-6 : Int32)) else (if p1 < 0 ∨ 16 ≤ (Int32.toNatClampNeg p1) then none else (kJ172 ((m_ofX (Int32.toNatClampNeg p1)) * z0_143))))))))) (fun kJ143 => (if p3 = 0 then (if p1 < 0 ∨ 16 ≤ (Int32.toNatClampNeg p1) then none else (kJ143 ((m_ofY (Int32.toNatClampNeg p1)) - (1 : Int32)))) else (if p1 < 0 ∨ 16 ≤ (Int32.toNatClampNeg p1) then none else (kJ143 ((m_ofY (Int32.toNatClampNeg p1)) + (1 : Int32))))))) else (md_jn (fun (z0_225 : Int32) => (kJ227 z0_225)) (fun kJ225 => (md_jn (fun (u_198 : Unit) => (md_jn (fun (u_223 : Unit) => (kJ225 (-6 : Int32))) (fun kJ223 => (if p3 = (1 : Int32) then (if x5_4 ≤ 0 then (kJ223 ()) else (kJ225 (((3600 : Int32) * x4_2) + ((61 : Int32) * x5_4)))) else (kJ223 ()))))) (fun kJ198 => (if p3 = 0 then (if x4_2 ≤ 0 then (kJ198 ()) else (kJ225 (((3660 : Int32) * x4_2) + x5_4))) else (kJ198 ())))))))))))))))))
set_option maxHeartbeats 4000000 in
set_option maxRecDepth 100000 in
theorem bX7_slipped {p : Program} {l : Launch} {e : Env} {s : State} {m : MethodId} {args : Array Value} {below : List Frame} {meth : Method} {c : Code} {Q : State → Prop} (C : kc p s m args meth c cX7_slipped 8 RX7 yX7_slipped.name wsX7_slipped (some .long)) {D : va_G} {cI cT : ClassId} {mo m_product_a m_place_a m_ofX_a m_ofY_a m_step_a m_rows_a m_cell_a m_overs_a m_sure_a : Nat} (p1 : Int32) (p2 : Int32) (p3 : Int32) (hK : va_K D vwCl (kTy cI cT) s) (m_isWorked : Int32) (m_lines : Int32) (m_product : Nat → Int32) (m_place : Nat → Int32) (m_ofX : Nat → Int32) (m_ofY : Nat → Int32) (m_steps : Int32) (m_step : Nat → Int32) (m_rows : Nat → Int32) (m_cell : Nat → Int32) (m_overs : Nat → Int32) (m_sure : Nat → Int32) (hP : va_P D vwCl [(mo, .inr (4, [.int m_isWorked, .int m_lines, .ref m_product_a, .ref m_place_a, .ref m_ofX_a, .ref m_ofY_a, .int m_steps, .ref m_step_a, .ref m_rows_a, .ref m_cell_a, .ref m_overs_a, .ref m_sure_a])), (m_product_a, .inl (cI, 16, .inl m_product)), (m_place_a, .inl (cI, 16, .inl m_place)), (m_ofX_a, .inl (cI, 16, .inl m_ofX)), (m_ofY_a, .inl (cI, 16, .inl m_ofY)), (m_step_a, .inl (cI, 5, .inl m_step)), (m_rows_a, .inl (cI, 4, .inl m_rows)), (m_cell_a, .inl (cI, 96, .inl m_cell)), (m_overs_a, .inl (cI, 29, .inl m_overs)), (m_sure_a, .inl (cI, 24, .inl m_sure))] s.heap) (res : Int64) (hQ : ∀ (v : Int64) (pc : Nat) (ls : Array Slot), some v = some res → decode cX7_slipped pc = .ok (.lreturn, 1) → W p l e rmX7_slipped s m args below meth c s.heap [] 0 0 Q (F0 m pc ls [.long v])) : mX7_slipped m_product m_place m_ofX m_ofY p1 p2 p3 = some res → ∀ (ls : Array Slot), lv_has ls 8 [(0, .ref mo), (1, .int p1), (2, .int p2), (3, .int p3)] → W p l e rmX7_slipped s m args below meth c s.heap [] 0 0 Q (F0 m 0 ls []) := by
  intro h ls hl
  have C0 := C
  obtain ⟨hx, hb, hml, hown, hts, hr, hlk, hnm⟩ := C0
  rw [mX7_slipped] at h
  refine lv_aload_n hx hb dX7_slipped_0 rfl (lv_at hl 0 rfl) ?_
  refine va_get (D := D) (ci := 4) (v := .ref m_product_a) (C := RX7) (T := TX7) (N := 12) hx hb hts wi_X7_slipped_X7 hown hK hP 0 rfl rfl 2 (by decide) (hts _ wm_X7_slipped_0) (fun _ h9 => h9) rfl dX7_slipped_1 ?_
  refine lv_iload_n hx hb dX7_slipped_4 rfl (lv_at hl 1 rfl) ?_
  obtain ⟨hin1, h⟩ := md_g h
  refine va_iald hx hb hK hP 1 0 rfl rfl hin1 dX7_slipped_5 ?_
  refine lv_bipush (v := 60) hx hb dX7_slipped_6 (by decide) ?_
  refine lv_idiv hx hb dX7_slipped_8 (by decide) ?_
  refine lv_topi (fun x4_2 ex4_2 => ?_)
  replace h := md_le ex4_2 h
  refine lv_istore (lv' := [(4, .int x4_2), (0, .ref mo), (1, .int p1), (2, .int p2), (3, .int p3)]) hx hb dX7_slipped_9 hl (by decide) rfl (fun ls hl => ?_)
  refine lv_aload_n hx hb dX7_slipped_11 rfl (lv_at hl 1 rfl) ?_
  refine va_get (D := D) (ci := 4) (v := .ref m_product_a) (C := RX7) (T := TX7) (N := 12) hx hb hts wi_X7_slipped_X7 hown hK hP 0 rfl rfl 2 (by decide) (hts _ wm_X7_slipped_0) (fun _ h9 => h9) rfl dX7_slipped_12 ?_
  refine lv_iload_n hx hb dX7_slipped_15 rfl (lv_at hl 2 rfl) ?_
  obtain ⟨hin3, h⟩ := md_g h
  refine va_iald hx hb hK hP 1 0 rfl rfl hin3 dX7_slipped_16 ?_
  refine lv_bipush (v := 60) hx hb dX7_slipped_17 (by decide) ?_
  refine lv_irem hx hb dX7_slipped_19 (by decide) ?_
  refine lv_topi (fun x5_4 ex5_4 => ?_)
  replace h := md_le ex5_4 h
  refine lv_istore (lv' := [(5, .int x5_4), (4, .int x4_2), (0, .ref mo), (1, .int p1), (2, .int p2), (3, .int p3)]) hx hb dX7_slipped_20 hl (by decide) rfl (fun ls hl => ?_)
  refine lv_bipush (v := -6) hx hb dX7_slipped_22 (by decide) ?_
  refine lv_istore (lv' := [(6, .int (-6 : Int32)), (5, .int x5_4), (4, .int x4_2), (0, .ref mo), (1, .int p1), (2, .int p2), (3, .int p3)]) hx hb dX7_slipped_24 hl (by decide) rfl (fun ls hl => ?_)
  refine lv_iload_n hx hb dX7_slipped_26 rfl (lv_at hl 5 rfl) ?_
  obtain ⟨kJ227, ekJ227, h⟩ := md_jo h
  have KJ227 : ∀ (x6_227 : Int32), kJ227 x6_227 = some res → ∀ (ls : Array Slot), lv_has ls 8 [(0, .ref mo), (1, .int p1), (6, .int x6_227)] → W p l e rmX7_slipped s m args below meth c s.heap [] 0 0 Q (F0 m 227 ls []) := by
    intro x6_227 h ls hl
    rw [ekJ227] at h
    refine lv_iload hx hb dX7_slipped_227 (lv_at hl 2 rfl) ?_
    refine lv_if_ge (tgt := 238) hx hb dX7_slipped_229 (by decide) (fun c5 => ?_) (fun c5 => ?_)
    · replace h := md_t c5 h
      refine lv_iload hx hb dX7_slipped_238 (lv_at hl 2 rfl) ?_
      refine lv_i2l hx hb dX7_slipped_240 rfl ?_
      refine lv_aload_n hx hb dX7_slipped_241 rfl (lv_at hl 0 rfl) ?_
      refine va_get (D := D) (ci := 4) (v := .ref m_place_a) (C := RX7) (T := TX7) (N := 12) hx hb hts wi_X7_slipped_X7 hown hK hP 0 rfl rfl 3 (by decide) (hts _ wm_X7_slipped_1) (fun _ h9 => h9) rfl dX7_slipped_242 ?_
      refine lv_iload_n hx hb dX7_slipped_245 rfl (lv_at hl 1 rfl) ?_
      obtain ⟨hin6, h⟩ := md_g h
      refine va_iald hx hb hK hP 2 0 rfl rfl hin6 dX7_slipped_246 ?_
      obtain ⟨u7, hu7, h⟩ := md_b h
      refine kS C (ctX7_power l  hu7) gX7_slipped_X7_power rfl kdX7_power ⟨rfl, rfl⟩ ⟨by decide, by decide⟩ kT_blind (fun _ _ _ => trivial) rfl hl [.long (Int32.toInt64 x6_227)] rfl (Nat.le_of_ble_eq_true rfl) dX7_slipped_247 ⟨by decide, by decide⟩ ?_
      refine lv_lmul hx hb dX7_slipped_250 ?_
      exact hQ ((Int32.toInt64 x6_227) * u7) 251 ls h dX7_slipped_251
    replace h := md_f c5 h
    refine lv_ldc2 hx hb hown (hts _ wm_X7_slipped_2) dX7_slipped_232 ?_
    refine lv_goto (tgt := 251) hx hb dX7_slipped_235 (by decide) ?_
    exact hQ (-6 : Int64) 251 ls h dX7_slipped_251
  clear ekJ227
  refine lv_if_ne (tgt := 71) hx hb dX7_slipped_27 (by decide) (fun c8 => ?_) (fun c8 => ?_)
  · replace h := md_f c8 h
    refine lv_iload_n hx hb dX7_slipped_71 rfl (lv_at hl 5 rfl) ?_
    refine lv_iconst (v := 1) hx hb dX7_slipped_72 (by decide) ?_
    refine lv_icmp_ne (tgt := 115) hx hb dX7_slipped_73 (by decide) (fun c9 => ?_) (fun c9 => ?_)
    · replace h := md_f c9 h
      refine lv_iload_n hx hb dX7_slipped_115 rfl (lv_at hl 5 rfl) ?_
      refine lv_iconst (v := 2) hx hb dX7_slipped_116 (by decide) ?_
      refine lv_icmp_ne (tgt := 177) hx hb dX7_slipped_117 (by decide) (fun c10 => ?_) (fun c10 => ?_)
      · replace h := md_f c10 h
        refine lv_iload_n hx hb dX7_slipped_177 rfl (lv_at hl 6 rfl) ?_
        obtain ⟨kJ225, ekJ225, h⟩ := md_jo h
        have KJ225 : ∀ (z0_225 : Int32), kJ225 z0_225 = some res → ∀ (ls : Array Slot), lv_has ls 8 [(0, .ref mo), (1, .int p1)] → W p l e rmX7_slipped s m args below meth c s.heap [] 0 0 Q (F0 m 225 ls [.int z0_225]) := by
          intro z0_225 h ls hl
          rw [ekJ225] at h
          refine lv_istore (lv' := [(6, .int z0_225), (0, .ref mo), (1, .int p1)]) hx hb dX7_slipped_225 hl (by decide) rfl (fun ls hl => ?_)
          exact KJ227 z0_225 h ls (lv_sub hl [1, 2, 0] rfl)
        clear ekJ225
        obtain ⟨kJ198, ekJ198, h⟩ := md_jo h
        have KJ198 : ∀ (u_198 : Unit), kJ198 u_198 = some res → ∀ (ls : Array Slot), lv_has ls 8 [(0, .ref mo), (1, .int p1), (3, .int p3), (4, .int x4_2), (5, .int x5_4)] → W p l e rmX7_slipped s m args below meth c s.heap [] 0 0 Q (F0 m 198 ls []) := by
          intro u_198 h ls hl
          rw [ekJ198] at h
          refine lv_iload_n hx hb dX7_slipped_198 rfl (lv_at hl 2 rfl) ?_
          refine lv_iconst (v := 1) hx hb dX7_slipped_199 (by decide) ?_
          obtain ⟨kJ223, ekJ223, h⟩ := md_jo h
          have KJ223 : ∀ (u_223 : Unit), kJ223 u_223 = some res → ∀ (ls : Array Slot), lv_has ls 8 [(0, .ref mo), (1, .int p1)] → W p l e rmX7_slipped s m args below meth c s.heap [] 0 0 Q (F0 m 223 ls []) := by
            intro u_223 h ls hl
            rw [ekJ223] at h
            refine lv_bipush (v := -6) hx hb dX7_slipped_223 (by decide) ?_
            exact KJ225 (-6 : Int32) h ls (lv_sub hl [0, 1] rfl)
          clear ekJ223
          refine lv_icmp_ne (tgt := 223) hx hb dX7_slipped_200 (by decide) (fun c11 => ?_) (fun c11 => ?_)
          · replace h := md_f c11 h
            exact KJ223 () h ls (lv_sub hl [0, 1] rfl)
          replace h := md_t c11 h
          refine lv_iload hx hb dX7_slipped_203 (lv_at hl 4 rfl) ?_
          refine lv_if_le (tgt := 223) hx hb dX7_slipped_205 (by decide) (fun c12 => ?_) (fun c12 => ?_)
          · replace h := md_t c12 h
            exact KJ223 () h ls (lv_sub hl [0, 1] rfl)
          replace h := md_f c12 h
          refine lv_sipush (v := 3600) hx hb dX7_slipped_208 (by decide) ?_
          refine lv_iload hx hb dX7_slipped_211 (lv_at hl 3 rfl) ?_
          refine lv_imul hx hb dX7_slipped_213 ?_
          refine lv_bipush (v := 61) hx hb dX7_slipped_214 (by decide) ?_
          refine lv_iload hx hb dX7_slipped_216 (lv_at hl 4 rfl) ?_
          refine lv_imul hx hb dX7_slipped_218 ?_
          refine lv_iadd hx hb dX7_slipped_219 ?_
          refine lv_goto (tgt := 225) hx hb dX7_slipped_220 (by decide) ?_
          exact KJ225 (((3600 : Int32) * x4_2) + ((61 : Int32) * x5_4)) h ls (lv_sub hl [0, 1] rfl)
        clear ekJ198
        refine lv_if_ne (tgt := 198) hx hb dX7_slipped_178 (by decide) (fun c13 => ?_) (fun c13 => ?_)
        · replace h := md_f c13 h
          exact KJ198 () h ls (lv_sub hl [3, 4, 6, 2, 1] rfl)
        replace h := md_t c13 h
        refine lv_iload hx hb dX7_slipped_181 (lv_at hl 2 rfl) ?_
        refine lv_if_le (tgt := 198) hx hb dX7_slipped_183 (by decide) (fun c14 => ?_) (fun c14 => ?_)
        · replace h := md_t c14 h
          exact KJ198 () h ls (lv_sub hl [3, 4, 6, 2, 1] rfl)
        replace h := md_f c14 h
        refine lv_sipush (v := 3660) hx hb dX7_slipped_186 (by decide) ?_
        refine lv_iload hx hb dX7_slipped_189 (lv_at hl 2 rfl) ?_
        refine lv_imul hx hb dX7_slipped_191 ?_
        refine lv_iload hx hb dX7_slipped_192 (lv_at hl 1 rfl) ?_
        refine lv_iadd hx hb dX7_slipped_194 ?_
        refine lv_goto (tgt := 225) hx hb dX7_slipped_195 (by decide) ?_
        exact KJ225 (((3660 : Int32) * x4_2) + x5_4) h ls (lv_sub hl [3, 4] rfl)
      replace h := md_t c10 h
      refine lv_iload_n hx hb dX7_slipped_120 rfl (lv_at hl 6 rfl) ?_
      obtain ⟨kJ143, ekJ143, h⟩ := md_jo h
      have KJ143 : ∀ (z0_143 : Int32), kJ143 z0_143 = some res → ∀ (ls : Array Slot), lv_has ls 8 [(0, .ref mo), (1, .int p1)] → W p l e rmX7_slipped s m args below meth c s.heap [] 0 0 Q (F0 m 143 ls [.int z0_143]) := by
        intro z0_143 h ls hl
        rw [ekJ143] at h
        refine lv_istore (lv' := [(7, .int z0_143), (0, .ref mo), (1, .int p1)]) hx hb dX7_slipped_143 hl (by decide) rfl (fun ls hl => ?_)
        refine lv_iload hx hb dX7_slipped_145 (lv_at hl 0 rfl) ?_
        refine lv_i2l hx hb dX7_slipped_147 rfl ?_
        refine lv_lconst (v := 1) hx hb dX7_slipped_148 (by decide) ?_
        refine lv_ldc2 hx hb hown (hts _ wm_X7_slipped_3) dX7_slipped_149 ?_
        obtain ⟨u15, hu15, h⟩ := md_b h
        refine kS C (ctX7_in l  hu15) gX7_slipped_X7_in rfl kdX7_in ⟨rfl, rfl⟩ ⟨by decide, by decide⟩ kT_blind (fun _ _ _ => trivial) rfl hl [] rfl (Nat.le_of_ble_eq_true rfl) dX7_slipped_152 ⟨by decide, by decide⟩ ?_
        obtain ⟨kJ172, ekJ172, h⟩ := md_jo h
        have KJ172 : ∀ (z0_172 : Int32), kJ172 z0_172 = some res → ∀ (ls : Array Slot), lv_has ls 8 [(0, .ref mo), (1, .int p1)] → W p l e rmX7_slipped s m args below meth c s.heap [] 0 0 Q (F0 m 172 ls [.int z0_172]) := by
          intro z0_172 h ls hl
          rw [ekJ172] at h
          refine lv_istore (lv' := [(6, .int z0_172), (0, .ref mo), (1, .int p1)]) hx hb dX7_slipped_172 hl (by decide) rfl (fun ls hl => ?_)
          refine lv_goto (tgt := 227) hx hb dX7_slipped_174 (by decide) ?_
          exact KJ227 z0_172 h ls (lv_sub hl [1, 2, 0] rfl)
        clear ekJ172
        refine lv_if_eq (tgt := 170) hx hb dX7_slipped_155 (by decide) (fun c16 => ?_) (fun c16 => ?_)
        · replace h := md_t c16 h
          refine lv_bipush (v := -6) hx hb dX7_slipped_170 (by decide) ?_
          exact KJ172 (-6 : Int32) h ls (lv_sub hl [1, 2] rfl)
        replace h := md_f c16 h
        refine lv_aload_n hx hb dX7_slipped_158 rfl (lv_at hl 1 rfl) ?_
        refine va_get (D := D) (ci := 4) (v := .ref m_ofX_a) (C := RX7) (T := TX7) (N := 12) hx hb hts wi_X7_slipped_X7 hown hK hP 0 rfl rfl 4 (by decide) (hts _ wm_X7_slipped_4) (fun _ h9 => h9) rfl dX7_slipped_159 ?_
        refine lv_iload_n hx hb dX7_slipped_162 rfl (lv_at hl 2 rfl) ?_
        obtain ⟨hin17, h⟩ := md_g h
        refine va_iald hx hb hK hP 3 0 rfl rfl hin17 dX7_slipped_163 ?_
        refine lv_iload hx hb dX7_slipped_164 (lv_at hl 0 rfl) ?_
        refine lv_imul hx hb dX7_slipped_166 ?_
        refine lv_goto (tgt := 172) hx hb dX7_slipped_167 (by decide) ?_
        exact KJ172 ((m_ofX (Int32.toNatClampNeg p1)) * z0_143) h ls (lv_sub hl [1, 2] rfl)
      clear ekJ143
      refine lv_if_ne (tgt := 135) hx hb dX7_slipped_121 (by decide) (fun c18 => ?_) (fun c18 => ?_)
      · replace h := md_f c18 h
        refine lv_aload_n hx hb dX7_slipped_135 rfl (lv_at hl 3 rfl) ?_
        refine va_get (D := D) (ci := 4) (v := .ref m_ofY_a) (C := RX7) (T := TX7) (N := 12) hx hb hts wi_X7_slipped_X7 hown hK hP 0 rfl rfl 5 (by decide) (hts _ wm_X7_slipped_5) (fun _ h9 => h9) rfl dX7_slipped_136 ?_
        refine lv_iload_n hx hb dX7_slipped_139 rfl (lv_at hl 4 rfl) ?_
        obtain ⟨hin19, h⟩ := md_g h
        refine va_iald hx hb hK hP 4 0 rfl rfl hin19 dX7_slipped_140 ?_
        refine lv_iconst (v := 1) hx hb dX7_slipped_141 (by decide) ?_
        refine lv_iadd hx hb dX7_slipped_142 ?_
        exact KJ143 ((m_ofY (Int32.toNatClampNeg p1)) + (1 : Int32)) h ls (lv_sub hl [3, 4] rfl)
      replace h := md_t c18 h
      refine lv_aload_n hx hb dX7_slipped_124 rfl (lv_at hl 3 rfl) ?_
      refine va_get (D := D) (ci := 4) (v := .ref m_ofY_a) (C := RX7) (T := TX7) (N := 12) hx hb hts wi_X7_slipped_X7 hown hK hP 0 rfl rfl 5 (by decide) (hts _ wm_X7_slipped_5) (fun _ h9 => h9) rfl dX7_slipped_125 ?_
      refine lv_iload_n hx hb dX7_slipped_128 rfl (lv_at hl 4 rfl) ?_
      obtain ⟨hin20, h⟩ := md_g h
      refine va_iald hx hb hK hP 4 0 rfl rfl hin20 dX7_slipped_129 ?_
      refine lv_iconst (v := 1) hx hb dX7_slipped_130 (by decide) ?_
      refine lv_isub hx hb dX7_slipped_131 ?_
      refine lv_goto (tgt := 143) hx hb dX7_slipped_132 (by decide) ?_
      exact KJ143 ((m_ofY (Int32.toNatClampNeg p1)) - (1 : Int32)) h ls (lv_sub hl [3, 4] rfl)
    replace h := md_t c9 h
    refine lv_iload_n hx hb dX7_slipped_76 rfl (lv_at hl 6 rfl) ?_
    refine lv_if_ne (tgt := 111) hx hb dX7_slipped_77 (by decide) (fun c21 => ?_) (fun c21 => ?_)
    · replace h := md_f c21 h
      refine lv_ldc2 hx hb hown (hts _ wm_X7_slipped_2) dX7_slipped_111 ?_
      exact hQ (-6 : Int64) 114 ls h dX7_slipped_114
    replace h := md_t c21 h
    refine lv_aload_n hx hb dX7_slipped_80 rfl (lv_at hl 3 rfl) ?_
    refine va_get (D := D) (ci := 4) (v := .ref m_place_a) (C := RX7) (T := TX7) (N := 12) hx hb hts wi_X7_slipped_X7 hown hK hP 0 rfl rfl 3 (by decide) (hts _ wm_X7_slipped_1) (fun _ h9 => h9) rfl dX7_slipped_81 ?_
    refine lv_iload_n hx hb dX7_slipped_84 rfl (lv_at hl 4 rfl) ?_
    obtain ⟨hin22, h⟩ := md_g h
    refine va_iald hx hb hK hP 2 0 rfl rfl hin22 dX7_slipped_85 ?_
    refine lv_if_le (tgt := 111) hx hb dX7_slipped_86 (by decide) (fun c23 => ?_) (fun c23 => ?_)
    · replace h := md_t c23 h
      refine lv_ldc2 hx hb hown (hts _ wm_X7_slipped_2) dX7_slipped_111 ?_
      exact hQ (-6 : Int64) 114 ls h dX7_slipped_114
    replace h := md_f c23 h
    refine lv_aload_n hx hb dX7_slipped_89 rfl (lv_at hl 3 rfl) ?_
    refine va_get (D := D) (ci := 4) (v := .ref m_product_a) (C := RX7) (T := TX7) (N := 12) hx hb hts wi_X7_slipped_X7 hown hK hP 0 rfl rfl 2 (by decide) (hts _ wm_X7_slipped_0) (fun _ h9 => h9) rfl dX7_slipped_90 ?_
    refine lv_iload_n hx hb dX7_slipped_93 rfl (lv_at hl 4 rfl) ?_
    obtain ⟨hin24, h⟩ := md_g h
    refine va_iald hx hb hK hP 1 0 rfl rfl hin24 dX7_slipped_94 ?_
    refine lv_i2l hx hb dX7_slipped_95 rfl ?_
    refine lv_aload_n hx hb dX7_slipped_96 rfl (lv_at hl 3 rfl) ?_
    refine va_get (D := D) (ci := 4) (v := .ref m_place_a) (C := RX7) (T := TX7) (N := 12) hx hb hts wi_X7_slipped_X7 hown hK hP 0 rfl rfl 3 (by decide) (hts _ wm_X7_slipped_1) (fun _ h9 => h9) rfl dX7_slipped_97 ?_
    refine lv_iload_n hx hb dX7_slipped_100 rfl (lv_at hl 4 rfl) ?_
    obtain ⟨hin25, h⟩ := md_g h
    refine va_iald hx hb hK hP 2 0 rfl rfl hin25 dX7_slipped_101 ?_
    refine lv_iconst (v := 1) hx hb dX7_slipped_102 (by decide) ?_
    refine lv_isub hx hb dX7_slipped_103 ?_
    obtain ⟨u26, hu26, h⟩ := md_b h
    refine kS C (ctX7_power l  hu26) gX7_slipped_X7_power rfl kdX7_power ⟨rfl, rfl⟩ ⟨by decide, by decide⟩ kT_blind (fun _ _ _ => trivial) rfl hl [.long (Int32.toInt64 (m_product (Int32.toNatClampNeg p1)))] rfl (Nat.le_of_ble_eq_true rfl) dX7_slipped_104 ⟨by decide, by decide⟩ ?_
    refine lv_lmul hx hb dX7_slipped_107 ?_
    refine lv_goto (tgt := 114) hx hb dX7_slipped_108 (by decide) ?_
    exact hQ ((Int32.toInt64 (m_product (Int32.toNatClampNeg p1))) * u26) 114 ls h dX7_slipped_114
  replace h := md_t c8 h
  refine lv_iload_n hx hb dX7_slipped_30 rfl (lv_at hl 6 rfl) ?_
  obtain ⟨kJ66, ekJ66, h⟩ := md_jo h
  have KJ66 : ∀ (z0_66 : Int32), kJ66 z0_66 = some res → ∀ (ls : Array Slot), lv_has ls 8 [(0, .ref mo), (1, .int p1)] → W p l e rmX7_slipped s m args below meth c s.heap [] 0 0 Q (F0 m 66 ls [.int z0_66]) := by
    intro z0_66 h ls hl
    rw [ekJ66] at h
    refine lv_istore (lv' := [(6, .int z0_66), (0, .ref mo), (1, .int p1)]) hx hb dX7_slipped_66 hl (by decide) rfl (fun ls hl => ?_)
    refine lv_goto (tgt := 227) hx hb dX7_slipped_68 (by decide) ?_
    exact KJ227 z0_66 h ls (lv_sub hl [1, 2, 0] rfl)
  clear ekJ66
  obtain ⟨kJ44, ekJ44, h⟩ := md_jo h
  have KJ44 : ∀ (u_44 : Unit), kJ44 u_44 = some res → ∀ (ls : Array Slot), lv_has ls 8 [(0, .ref mo), (1, .int p1), (3, .int p3), (4, .int x4_2), (5, .int x5_4)] → W p l e rmX7_slipped s m args below meth c s.heap [] 0 0 Q (F0 m 44 ls []) := by
    intro u_44 h ls hl
    rw [ekJ44] at h
    refine lv_iload_n hx hb dX7_slipped_44 rfl (lv_at hl 2 rfl) ?_
    refine lv_iconst (v := 1) hx hb dX7_slipped_45 (by decide) ?_
    obtain ⟨kJ64, ekJ64, h⟩ := md_jo h
    have KJ64 : ∀ (u_64 : Unit), kJ64 u_64 = some res → ∀ (ls : Array Slot), lv_has ls 8 [(0, .ref mo), (1, .int p1)] → W p l e rmX7_slipped s m args below meth c s.heap [] 0 0 Q (F0 m 64 ls []) := by
      intro u_64 h ls hl
      rw [ekJ64] at h
      refine lv_bipush (v := -6) hx hb dX7_slipped_64 (by decide) ?_
      exact KJ66 (-6 : Int32) h ls (lv_sub hl [0, 1] rfl)
    clear ekJ64
    refine lv_icmp_ne (tgt := 64) hx hb dX7_slipped_46 (by decide) (fun c27 => ?_) (fun c27 => ?_)
    · replace h := md_f c27 h
      exact KJ64 () h ls (lv_sub hl [0, 1] rfl)
    replace h := md_t c27 h
    refine lv_iload hx hb dX7_slipped_49 (lv_at hl 3 rfl) ?_
    refine lv_if_le (tgt := 64) hx hb dX7_slipped_51 (by decide) (fun c28 => ?_) (fun c28 => ?_)
    · replace h := md_t c28 h
      exact KJ64 () h ls (lv_sub hl [0, 1] rfl)
    replace h := md_f c28 h
    refine lv_iload hx hb dX7_slipped_54 (lv_at hl 4 rfl) ?_
    refine lv_if_le (tgt := 64) hx hb dX7_slipped_56 (by decide) (fun c29 => ?_) (fun c29 => ?_)
    · replace h := md_t c29 h
      exact KJ64 () h ls (lv_sub hl [0, 1] rfl)
    replace h := md_f c29 h
    refine lv_iload hx hb dX7_slipped_59 (lv_at hl 3 rfl) ?_
    refine lv_goto (tgt := 66) hx hb dX7_slipped_61 (by decide) ?_
    exact KJ66 x4_2 h ls (lv_sub hl [0, 1] rfl)
  clear ekJ44
  refine lv_if_ne (tgt := 44) hx hb dX7_slipped_31 (by decide) (fun c30 => ?_) (fun c30 => ?_)
  · replace h := md_f c30 h
    exact KJ44 () h ls (lv_sub hl [3, 4, 6, 2, 1] rfl)
  replace h := md_t c30 h
  refine lv_iload hx hb dX7_slipped_34 (lv_at hl 2 rfl) ?_
  refine lv_if_le (tgt := 44) hx hb dX7_slipped_36 (by decide) (fun c31 => ?_) (fun c31 => ?_)
  · replace h := md_t c31 h
    exact KJ44 () h ls (lv_sub hl [3, 4, 6, 2, 1] rfl)
  replace h := md_f c31 h
  refine lv_iload hx hb dX7_slipped_39 (lv_at hl 1 rfl) ?_
  refine lv_goto (tgt := 66) hx hb dX7_slipped_41 (by decide) ?_
  exact KJ66 x5_4 h ls (lv_sub hl [3, 4] rfl)
set_option maxHeartbeats 4000000 in
theorem ctX7_slipped (l : Launch) {D : va_G} {cI cT : ClassId} {mo m_product_a m_place_a m_ofX_a m_ofY_a m_step_a m_rows_a m_cell_a m_overs_a m_sure_a : Nat} {m_isWorked : Int32} {m_lines : Int32} {m_product : Nat → Int32} {m_place : Nat → Int32} {m_ofX : Nat → Int32} {m_ofY : Nat → Int32} {m_steps : Int32} {m_step : Nat → Int32} {m_rows : Nat → Int32} {m_cell : Nat → Int32} {m_overs : Nat → Int32} {m_sure : Nat → Int32} {p1 : Int32} {p2 : Int32} {p3 : Int32} {res : Int64} (hm : mX7_slipped m_product m_place m_ofX m_ofY p1 p2 p3 = some res) : Met l yX7_slipped wsX7_slipped rmX7_slipped (va_Pc [.ref mo, .int p1, .int p2, .int p3] (kW D cI cT [(mo, .inr (4, [.int m_isWorked, .int m_lines, .ref m_product_a, .ref m_place_a, .ref m_ofX_a, .ref m_ofY_a, .int m_steps, .ref m_step_a, .ref m_rows_a, .ref m_cell_a, .ref m_overs_a, .ref m_sure_a])), (m_product_a, .inl (cI, 16, .inl m_product)), (m_place_a, .inl (cI, 16, .inl m_place)), (m_ofX_a, .inl (cI, 16, .inl m_ofX)), (m_ofY_a, .inl (cI, 16, .inl m_ofY)), (m_step_a, .inl (cI, 5, .inl m_step)), (m_rows_a, .inl (cI, 4, .inl m_rows)), (m_cell_a, .inl (cI, 96, .inl m_cell)), (m_overs_a, .inl (cI, 29, .inl m_overs)), (m_sure_a, .inl (cI, 24, .inl m_sure))] none (fun _ => False))) (kR (.long res)) 0 0 (fun _ => False) :=
  km (by decide) rfl (Nat.le_of_ble_eq_true rfl) (fun p e s m below meth c ls C hB hl => bX7_slipped C p1 p2 p3 hB.1 m_isWorked m_lines m_product m_place m_ofX m_ofY m_steps m_step m_rows m_cell m_overs m_sure hB.2.1 res (fun v pc ls h hd => kr_l C h hd) hm ls hl)
theorem wm_X7_slip_0 : Cond.constantLong RX7 140 (-1000000000000000001) ∈ wsX7_slip := by decide +kernel
theorem wm_X7_slip_1 : Cond.constantLong RX7 110 (3) ∈ wsX7_slip := by decide +kernel
theorem wm_X7_slip_2 : Cond.constantLong RX7 57 (-1000000000000000002) ∈ wsX7_slip := by decide +kernel
theorem wm_X7_slip_3 : Cond.constantLong RX7 94 (-1000000000000000005) ∈ wsX7_slip := by decide +kernel
theorem kdvX7_slip : yX7_slip.cls = RX7 ∧ yX7_slip.cls ≠ "java/lang/invoke/MethodHandle" ∧ yX7_slip.cls ≠ "java/lang/invoke/VarHandle" ∧ (parseMethodDescriptor yX7_slip.desc).map (fun d => d.parameters.length) = some 4 := by decide +kernel
abbrev rmX7_slip : Room := { frames := 3, cells := 0, slots := 0, locals := 68 }
def mX7_slip (m_lines : Int32) (m_product : Nat → Int32) (m_place : Nat → Int32) (m_ofX : Nat → Int32) (m_ofY : Nat → Int32) (p1 : Int32) (p2 : Int32) (p3 : Int32) (p4 : Int32) : Option Int64 := (Option.bind (mX7_isLine m_lines p1) (fun u1 => (if u1 = 0 then (some (-1000000000000000001 : Int64)) else (Option.bind (mX7_isLine m_lines p4) (fun u3 => (if u3 = 0 then (some (-1000000000000000001 : Int64)) else (Option.bind (mX7_in (Int32.toInt64 p2) (0 : Int64) (3 : Int64)) (fun u5 => (if u5 = 0 then (some (-1000000000000000002 : Int64)) else (Option.bind (mX7_in (Int32.toInt64 p3) (0 : Int64) (1 : Int64)) (fun u7 => (if u7 = 0 then (some (-1000000000000000002 : Int64)) else (Option.bind (mX7_slipped m_product m_place m_ofX m_ofY p1 p2 p3) (fun u9 => (if (0 : Int64) ≤ u9 then (if p1 ≤ p4 then (Option.bind (mX7_sumOf m_product m_place p4) (fun u12 => (Option.bind (mX7_lineOf m_product m_place p1) (fun u13 => (some ((u12 - u13) + u9)))))) else (Option.bind (mX7_sumOf m_product m_place p4) (fun u14 => (some u14)))) else (some (-1000000000000000005 : Int64)))))))))))))))))
set_option maxHeartbeats 4000000 in
set_option maxRecDepth 100000 in
theorem bX7_slip {p : Program} {l : Launch} {e : Env} {s : State} {m : MethodId} {args : Array Value} {below : List Frame} {meth : Method} {c : Code} {Q : State → Prop} (C : kc p s m args meth c cX7_slip 7 RX7 yX7_slip.name wsX7_slip (some .long)) {D : va_G} {cI cT : ClassId} {mo m_product_a m_place_a m_ofX_a m_ofY_a m_step_a m_rows_a m_cell_a m_overs_a m_sure_a : Nat} (p1 : Int32) (p2 : Int32) (p3 : Int32) (p4 : Int32) (hK : va_K D vwCl (kTy cI cT) s) (m_isWorked : Int32) (m_lines : Int32) (m_product : Nat → Int32) (m_place : Nat → Int32) (m_ofX : Nat → Int32) (m_ofY : Nat → Int32) (m_steps : Int32) (m_step : Nat → Int32) (m_rows : Nat → Int32) (m_cell : Nat → Int32) (m_overs : Nat → Int32) (m_sure : Nat → Int32) (hP : va_P D vwCl [(mo, .inr (4, [.int m_isWorked, .int m_lines, .ref m_product_a, .ref m_place_a, .ref m_ofX_a, .ref m_ofY_a, .int m_steps, .ref m_step_a, .ref m_rows_a, .ref m_cell_a, .ref m_overs_a, .ref m_sure_a])), (m_product_a, .inl (cI, 16, .inl m_product)), (m_place_a, .inl (cI, 16, .inl m_place)), (m_ofX_a, .inl (cI, 16, .inl m_ofX)), (m_ofY_a, .inl (cI, 16, .inl m_ofY)), (m_step_a, .inl (cI, 5, .inl m_step)), (m_rows_a, .inl (cI, 4, .inl m_rows)), (m_cell_a, .inl (cI, 96, .inl m_cell)), (m_overs_a, .inl (cI, 29, .inl m_overs)), (m_sure_a, .inl (cI, 24, .inl m_sure))] s.heap) (res : Int64) (hQ : ∀ (v : Int64) (pc : Nat) (ls : Array Slot), some v = some res → decode cX7_slip pc = .ok (.lreturn, 1) → W p l e rmX7_slip s m args below meth c s.heap [] 0 0 Q (F0 m pc ls [.long v])) : mX7_slip m_lines m_product m_place m_ofX m_ofY p1 p2 p3 p4 = some res → ∀ (ls : Array Slot), lv_has ls 7 [(0, .ref mo), (1, .int p1), (2, .int p2), (3, .int p3), (4, .int p4)] → W p l e rmX7_slip s m args below meth c s.heap [] 0 0 Q (F0 m 0 ls []) := by
  intro h ls hl
  have C0 := C
  obtain ⟨hx, hb, hml, hown, hts, hr, hlk, hnm⟩ := C0
  rw [mX7_slip] at h
  refine lv_aload_n hx hb dX7_slip_0 rfl (lv_at hl 0 rfl) ?_
  refine lv_iload_n hx hb dX7_slip_1 rfl (lv_at hl 1 rfl) ?_
  obtain ⟨u1, hu1, h⟩ := md_b h
  refine kV C (ctX7_isLine l  hu1) gX7_slip_X7_isLine rfl kdvX7_isLine ⟨rfl, rfl⟩ ⟨by decide, by decide⟩ kW_blind (va_recv hK hP (ci := 4) (q0 := 0) rfl rfl) (kW_use hK (hP.sub (ws' := [(mo, .inr (4, [.int m_isWorked, .int m_lines, .ref m_product_a, .ref m_place_a, .ref m_ofX_a, .ref m_ofY_a, .int m_steps, .ref m_step_a, .ref m_rows_a, .ref m_cell_a, .ref m_overs_a, .ref m_sure_a])), (m_product_a, .inl (cI, 16, .inl m_product)), (m_place_a, .inl (cI, 16, .inl m_place)), (m_ofX_a, .inl (cI, 16, .inl m_ofX)), (m_ofY_a, .inl (cI, 16, .inl m_ofY)), (m_step_a, .inl (cI, 5, .inl m_step)), (m_rows_a, .inl (cI, 4, .inl m_rows)), (m_cell_a, .inl (cI, 96, .inl m_cell)), (m_overs_a, .inl (cI, 29, .inl m_overs)), (m_sure_a, .inl (cI, 24, .inl m_sure))]) [0, 1, 2, 3, 4, 5, 6, 7, 8, 9] rfl) kL_no) rfl hl [] rfl (Nat.le_of_ble_eq_true rfl) dX7_slip_2 ⟨by decide, by decide⟩ ?_
  refine lv_if_eq (tgt := 17) hx hb dX7_slip_5 (by decide) (fun c2 => ?_) (fun c2 => ?_)
  · replace h := md_t c2 h
    refine lv_ldc2 hx hb hown (hts _ wm_X7_slip_0) dX7_slip_17 ?_
    exact hQ (-1000000000000000001 : Int64) 20 ls h dX7_slip_20
  replace h := md_f c2 h
  refine lv_aload_n hx hb dX7_slip_8 rfl (lv_at hl 0 rfl) ?_
  refine lv_iload hx hb dX7_slip_9 (lv_at hl 4 rfl) ?_
  obtain ⟨u3, hu3, h⟩ := md_b h
  refine kV C (ctX7_isLine l  hu3) gX7_slip_X7_isLine rfl kdvX7_isLine ⟨rfl, rfl⟩ ⟨by decide, by decide⟩ kW_blind (va_recv hK hP (ci := 4) (q0 := 0) rfl rfl) (kW_use hK (hP.sub (ws' := [(mo, .inr (4, [.int m_isWorked, .int m_lines, .ref m_product_a, .ref m_place_a, .ref m_ofX_a, .ref m_ofY_a, .int m_steps, .ref m_step_a, .ref m_rows_a, .ref m_cell_a, .ref m_overs_a, .ref m_sure_a])), (m_product_a, .inl (cI, 16, .inl m_product)), (m_place_a, .inl (cI, 16, .inl m_place)), (m_ofX_a, .inl (cI, 16, .inl m_ofX)), (m_ofY_a, .inl (cI, 16, .inl m_ofY)), (m_step_a, .inl (cI, 5, .inl m_step)), (m_rows_a, .inl (cI, 4, .inl m_rows)), (m_cell_a, .inl (cI, 96, .inl m_cell)), (m_overs_a, .inl (cI, 29, .inl m_overs)), (m_sure_a, .inl (cI, 24, .inl m_sure))]) [0, 1, 2, 3, 4, 5, 6, 7, 8, 9] rfl) kL_no) rfl hl [] rfl (Nat.le_of_ble_eq_true rfl) dX7_slip_11 ⟨by decide, by decide⟩ ?_
  refine lv_if_ne (tgt := 21) hx hb dX7_slip_14 (by decide) (fun c4 => ?_) (fun c4 => ?_)
  · replace h := md_f c4 h
    refine lv_iload_n hx hb dX7_slip_21 rfl (lv_at hl 2 rfl) ?_
    refine lv_i2l hx hb dX7_slip_22 rfl ?_
    refine lv_lconst (v := 0) hx hb dX7_slip_23 (by decide) ?_
    refine lv_ldc2 hx hb hown (hts _ wm_X7_slip_1) dX7_slip_24 ?_
    obtain ⟨u5, hu5, h⟩ := md_b h
    refine kS C (ctX7_in l  hu5) gX7_slip_X7_in rfl kdX7_in ⟨rfl, rfl⟩ ⟨by decide, by decide⟩ kT_blind (fun _ _ _ => trivial) rfl hl [] rfl (Nat.le_of_ble_eq_true rfl) dX7_slip_27 ⟨by decide, by decide⟩ ?_
    refine lv_if_eq (tgt := 43) hx hb dX7_slip_30 (by decide) (fun c6 => ?_) (fun c6 => ?_)
    · replace h := md_t c6 h
      refine lv_ldc2 hx hb hown (hts _ wm_X7_slip_2) dX7_slip_43 ?_
      exact hQ (-1000000000000000002 : Int64) 46 ls h dX7_slip_46
    replace h := md_f c6 h
    refine lv_iload_n hx hb dX7_slip_33 rfl (lv_at hl 3 rfl) ?_
    refine lv_i2l hx hb dX7_slip_34 rfl ?_
    refine lv_lconst (v := 0) hx hb dX7_slip_35 (by decide) ?_
    refine lv_lconst (v := 1) hx hb dX7_slip_36 (by decide) ?_
    obtain ⟨u7, hu7, h⟩ := md_b h
    refine kS C (ctX7_in l  hu7) gX7_slip_X7_in rfl kdX7_in ⟨rfl, rfl⟩ ⟨by decide, by decide⟩ kT_blind (fun _ _ _ => trivial) rfl hl [] rfl (Nat.le_of_ble_eq_true rfl) dX7_slip_37 ⟨by decide, by decide⟩ ?_
    refine lv_if_ne (tgt := 47) hx hb dX7_slip_40 (by decide) (fun c8 => ?_) (fun c8 => ?_)
    · replace h := md_f c8 h
      refine lv_aload_n hx hb dX7_slip_47 rfl (lv_at hl 0 rfl) ?_
      refine lv_iload_n hx hb dX7_slip_48 rfl (lv_at hl 1 rfl) ?_
      refine lv_iload_n hx hb dX7_slip_49 rfl (lv_at hl 2 rfl) ?_
      refine lv_iload_n hx hb dX7_slip_50 rfl (lv_at hl 3 rfl) ?_
      obtain ⟨u9, hu9, h⟩ := md_b h
      refine kV C (ctX7_slipped l  hu9) gX7_slip_X7_slipped rfl kdvX7_slipped ⟨rfl, rfl⟩ ⟨by decide, by decide⟩ kW_blind (va_recv hK hP (ci := 4) (q0 := 0) rfl rfl) (kW_use hK (hP.sub (ws' := [(mo, .inr (4, [.int m_isWorked, .int m_lines, .ref m_product_a, .ref m_place_a, .ref m_ofX_a, .ref m_ofY_a, .int m_steps, .ref m_step_a, .ref m_rows_a, .ref m_cell_a, .ref m_overs_a, .ref m_sure_a])), (m_product_a, .inl (cI, 16, .inl m_product)), (m_place_a, .inl (cI, 16, .inl m_place)), (m_ofX_a, .inl (cI, 16, .inl m_ofX)), (m_ofY_a, .inl (cI, 16, .inl m_ofY)), (m_step_a, .inl (cI, 5, .inl m_step)), (m_rows_a, .inl (cI, 4, .inl m_rows)), (m_cell_a, .inl (cI, 96, .inl m_cell)), (m_overs_a, .inl (cI, 29, .inl m_overs)), (m_sure_a, .inl (cI, 24, .inl m_sure))]) [0, 1, 2, 3, 4, 5, 6, 7, 8, 9] rfl) kL_no) rfl hl [] rfl (Nat.le_of_ble_eq_true rfl) dX7_slip_51 ⟨by decide, by decide⟩ ?_
      refine lv_lstore (lv' := [(5, .long u9), (0, .ref mo), (1, .int p1), (2, .int p2), (3, .int p3), (4, .int p4)]) hx hb dX7_slip_54 hl (by decide) rfl (fun ls hl => ?_)
      refine lv_lload hx hb dX7_slip_56 (lv_at hl 0 rfl) ?_
      refine lv_lconst (v := 0) hx hb dX7_slip_58 (by decide) ?_
      refine W.lcmp hx hb dX7_slip_59 ?_
      refine lv_if_ge (tgt := 67) hx hb dX7_slip_60 (by decide) (fun c10 => ?_) (fun c10 => ?_)
      · replace c10 := (lg_cmp_ge _ _).mp c10
        replace h := md_t c10 h
        refine lv_iload hx hb dX7_slip_67 (lv_at hl 5 rfl) ?_
        refine lv_iload_n hx hb dX7_slip_69 rfl (lv_at hl 2 rfl) ?_
        refine lv_icmp_ge (tgt := 82) hx hb dX7_slip_70 (by decide) (fun c11 => ?_) (fun c11 => ?_)
        · replace h := md_t c11 h
          refine lv_aload_n hx hb dX7_slip_82 rfl (lv_at hl 1 rfl) ?_
          refine lv_iload hx hb dX7_slip_83 (lv_at hl 5 rfl) ?_
          obtain ⟨u12, hu12, h⟩ := md_b h
          refine kV C (ctX7_sumOf l  hu12) gX7_slip_X7_sumOf rfl kdvX7_sumOf ⟨rfl, rfl⟩ ⟨by decide, by decide⟩ kW_blind (va_recv hK hP (ci := 4) (q0 := 0) rfl rfl) (kW_use hK (hP.sub (ws' := [(mo, .inr (4, [.int m_isWorked, .int m_lines, .ref m_product_a, .ref m_place_a, .ref m_ofX_a, .ref m_ofY_a, .int m_steps, .ref m_step_a, .ref m_rows_a, .ref m_cell_a, .ref m_overs_a, .ref m_sure_a])), (m_product_a, .inl (cI, 16, .inl m_product)), (m_place_a, .inl (cI, 16, .inl m_place)), (m_ofX_a, .inl (cI, 16, .inl m_ofX)), (m_ofY_a, .inl (cI, 16, .inl m_ofY)), (m_step_a, .inl (cI, 5, .inl m_step)), (m_rows_a, .inl (cI, 4, .inl m_rows)), (m_cell_a, .inl (cI, 96, .inl m_cell)), (m_overs_a, .inl (cI, 29, .inl m_overs)), (m_sure_a, .inl (cI, 24, .inl m_sure))]) [0, 1, 2, 3, 4, 5, 6, 7, 8, 9] rfl) kL_no) rfl hl [] rfl (Nat.le_of_ble_eq_true rfl) dX7_slip_85 ⟨by decide, by decide⟩ ?_
          refine lv_aload_n hx hb dX7_slip_88 rfl (lv_at hl 1 rfl) ?_
          refine lv_iload_n hx hb dX7_slip_89 rfl (lv_at hl 2 rfl) ?_
          obtain ⟨u13, hu13, h⟩ := md_b h
          refine kV C (ctX7_lineOf l  hu13) gX7_slip_X7_lineOf rfl kdvX7_lineOf ⟨rfl, rfl⟩ ⟨by decide, by decide⟩ kW_blind (va_recv hK hP (ci := 4) (q0 := 0) rfl rfl) (kW_use hK (hP.sub (ws' := [(mo, .inr (4, [.int m_isWorked, .int m_lines, .ref m_product_a, .ref m_place_a, .ref m_ofX_a, .ref m_ofY_a, .int m_steps, .ref m_step_a, .ref m_rows_a, .ref m_cell_a, .ref m_overs_a, .ref m_sure_a])), (m_product_a, .inl (cI, 16, .inl m_product)), (m_place_a, .inl (cI, 16, .inl m_place)), (m_ofX_a, .inl (cI, 16, .inl m_ofX)), (m_ofY_a, .inl (cI, 16, .inl m_ofY)), (m_step_a, .inl (cI, 5, .inl m_step)), (m_rows_a, .inl (cI, 4, .inl m_rows)), (m_cell_a, .inl (cI, 96, .inl m_cell)), (m_overs_a, .inl (cI, 29, .inl m_overs)), (m_sure_a, .inl (cI, 24, .inl m_sure))]) [0, 1, 2, 3, 4, 5, 6, 7, 8, 9] rfl) kL_no) rfl hl [.long u12] rfl (Nat.le_of_ble_eq_true rfl) dX7_slip_90 ⟨by decide, by decide⟩ ?_
          refine lv_lsub hx hb dX7_slip_93 ?_
          refine lv_lload hx hb dX7_slip_94 (lv_at hl 0 rfl) ?_
          refine lv_ladd hx hb dX7_slip_96 ?_
          exact hQ ((u12 - u13) + u9) 97 ls h dX7_slip_97
        replace h := md_f c11 h
        refine lv_aload_n hx hb dX7_slip_73 rfl (lv_at hl 1 rfl) ?_
        refine lv_iload hx hb dX7_slip_74 (lv_at hl 5 rfl) ?_
        obtain ⟨u14, hu14, h⟩ := md_b h
        refine kV C (ctX7_sumOf l  hu14) gX7_slip_X7_sumOf rfl kdvX7_sumOf ⟨rfl, rfl⟩ ⟨by decide, by decide⟩ kW_blind (va_recv hK hP (ci := 4) (q0 := 0) rfl rfl) (kW_use hK (hP.sub (ws' := [(mo, .inr (4, [.int m_isWorked, .int m_lines, .ref m_product_a, .ref m_place_a, .ref m_ofX_a, .ref m_ofY_a, .int m_steps, .ref m_step_a, .ref m_rows_a, .ref m_cell_a, .ref m_overs_a, .ref m_sure_a])), (m_product_a, .inl (cI, 16, .inl m_product)), (m_place_a, .inl (cI, 16, .inl m_place)), (m_ofX_a, .inl (cI, 16, .inl m_ofX)), (m_ofY_a, .inl (cI, 16, .inl m_ofY)), (m_step_a, .inl (cI, 5, .inl m_step)), (m_rows_a, .inl (cI, 4, .inl m_rows)), (m_cell_a, .inl (cI, 96, .inl m_cell)), (m_overs_a, .inl (cI, 29, .inl m_overs)), (m_sure_a, .inl (cI, 24, .inl m_sure))]) [0, 1, 2, 3, 4, 5, 6, 7, 8, 9] rfl) kL_no) rfl hl [] rfl (Nat.le_of_ble_eq_true rfl) dX7_slip_76 ⟨by decide, by decide⟩ ?_
        refine lv_goto (tgt := 97) hx hb dX7_slip_79 (by decide) ?_
        exact hQ u14 97 ls h dX7_slip_97
      replace c10 := fun q9 => c10 ((lg_cmp_ge _ _).mpr q9)
      replace h := md_f c10 h
      refine lv_ldc2 hx hb hown (hts _ wm_X7_slip_3) dX7_slip_63 ?_
      exact hQ (-1000000000000000005 : Int64) 66 ls h dX7_slip_66
    replace h := md_t c8 h
    refine lv_ldc2 hx hb hown (hts _ wm_X7_slip_2) dX7_slip_43 ?_
    exact hQ (-1000000000000000002 : Int64) 46 ls h dX7_slip_46
  replace h := md_t c4 h
  refine lv_ldc2 hx hb hown (hts _ wm_X7_slip_0) dX7_slip_17 ?_
  exact hQ (-1000000000000000001 : Int64) 20 ls h dX7_slip_20
set_option maxHeartbeats 4000000 in
theorem ctX7_slip (l : Launch) {D : va_G} {cI cT : ClassId} {mo m_product_a m_place_a m_ofX_a m_ofY_a m_step_a m_rows_a m_cell_a m_overs_a m_sure_a : Nat} {m_isWorked : Int32} {m_lines : Int32} {m_product : Nat → Int32} {m_place : Nat → Int32} {m_ofX : Nat → Int32} {m_ofY : Nat → Int32} {m_steps : Int32} {m_step : Nat → Int32} {m_rows : Nat → Int32} {m_cell : Nat → Int32} {m_overs : Nat → Int32} {m_sure : Nat → Int32} {p1 : Int32} {p2 : Int32} {p3 : Int32} {p4 : Int32} {res : Int64} (hm : mX7_slip m_lines m_product m_place m_ofX m_ofY p1 p2 p3 p4 = some res) : Met l yX7_slip wsX7_slip rmX7_slip (va_Pc [.ref mo, .int p1, .int p2, .int p3, .int p4] (kW D cI cT [(mo, .inr (4, [.int m_isWorked, .int m_lines, .ref m_product_a, .ref m_place_a, .ref m_ofX_a, .ref m_ofY_a, .int m_steps, .ref m_step_a, .ref m_rows_a, .ref m_cell_a, .ref m_overs_a, .ref m_sure_a])), (m_product_a, .inl (cI, 16, .inl m_product)), (m_place_a, .inl (cI, 16, .inl m_place)), (m_ofX_a, .inl (cI, 16, .inl m_ofX)), (m_ofY_a, .inl (cI, 16, .inl m_ofY)), (m_step_a, .inl (cI, 5, .inl m_step)), (m_rows_a, .inl (cI, 4, .inl m_rows)), (m_cell_a, .inl (cI, 96, .inl m_cell)), (m_overs_a, .inl (cI, 29, .inl m_overs)), (m_sure_a, .inl (cI, 24, .inl m_sure))] none (fun _ => False))) (kR (.long res)) 0 0 (fun _ => False) :=
  km (by decide) rfl (Nat.le_of_ble_eq_true rfl) (fun p e s m below meth c ls C hB hl => bX7_slip C p1 p2 p3 p4 hB.1 m_isWorked m_lines m_product m_place m_ofX m_ofY m_steps m_step m_rows m_cell m_overs m_sure hB.2.1 res (fun v pc ls h hd => kr_l C h hd) hm ls hl)
theorem wm_X7_blame_0 : Cond.fieldLink RX7 122 "SixtyTabletModel" "isWorked" "Z" ∈ wsX7_blame := by decide +kernel
theorem wm_X7_blame_1 : Cond.fieldLink RX7 126 "SixtyTabletModel" "lines" "I" ∈ wsX7_blame := by decide +kernel
theorem wi_X7_blame_X7 : ∀ w ∈ wsX70, w ∈ wsX7_blame := by decide +kernel
theorem kdvX7_blame : yX7_blame.cls = RX7 ∧ yX7_blame.cls ≠ "java/lang/invoke/MethodHandle" ∧ yX7_blame.cls ≠ "java/lang/invoke/VarHandle" ∧ (parseMethodDescriptor yX7_blame.desc).map (fun d => d.parameters.length) = some 2 := by decide +kernel
abbrev rmX7_blame : Room := { frames := 3, cells := 0, slots := 0, locals := 68 }
def mlX7_blame_28 (x1 : Int64) (x3 : Int32) (x5 : Int64) (m_lines : Int32) (m_product : Nat → Int32) (m_place : Nat → Int32) (m_ofX : Nat → Int32) (m_ofY : Nat → Int32) (kE : Int32 → Option Int32) : Nat → Int32 → Int32 → Option Int32
  | 0, _, _ => none
  | n + 1, x4, x7 => (if ((8 : Int32) * m_lines) ≤ x7 then (kE x4) else (Option.bind (mX7_slipped m_product m_place m_ofX m_ofY (x7 / (8 : Int32)) ((x7 / (2 : Int32)) - (x7 / (2 : Int32)) / (4 : Int32) * (4 : Int32)) (x7 - x7 / (2 : Int32) * (2 : Int32))) (fun u4 => (Option.bind (mX7_lineOf m_product m_place (x7 / (8 : Int32))) (fun u5 => (md_let ((x5 - u5) + u4) (fun (x10_6 : Int64) => (md_jn (fun (x4_133 : Int32) => (md_let (x7 + (1 : Int32)) (fun (x7_7 : Int32) => (mlX7_blame_28 x1 x3 x5 m_lines m_product m_place m_ofX m_ofY kE n x4_133 x7_7)))) (fun kJ133 => (if u4 < (0 : Int64) then (kJ133 x4) else (if x10_6 = x1 then (if x10_6 = x5 then (kJ133 x4) else (if x4 = x3 then (some ((((100 : Int32) * (x7 / (8 : Int32))) + ((10 : Int32) * ((x7 / (2 : Int32)) - (x7 / (2 : Int32)) / (4 : Int32) * (4 : Int32)))) + (x7 - x7 / (2 : Int32) * (2 : Int32)))) else (md_let (x4 + (1 : Int32)) (fun (x4_12 : Int32) => (kJ133 x4_12))))) else (kJ133 x4))))))))))))
set_option maxHeartbeats 4000000 in
set_option maxRecDepth 100000 in
theorem lX7_blame_28 {p : Program} {l : Launch} {e : Env} {s : State} {m : MethodId} {args : Array Value} {below : List Frame} {meth : Method} {c : Code} {Q : State → Prop} (C : kc p s m args meth c cX7_blame 12 RX7 yX7_blame.name wsX7_blame (some .int)) {D : va_G} {cI cT : ClassId} {mo m_product_a m_place_a m_ofX_a m_ofY_a m_step_a m_rows_a m_cell_a m_overs_a m_sure_a : Nat} (hK : va_K D vwCl (kTy cI cT) s) (x1 : Int64) (x3 : Int32) (x5 : Int64) (m_isWorked : Int32) (m_lines : Int32) (m_product : Nat → Int32) (m_place : Nat → Int32) (m_ofX : Nat → Int32) (m_ofY : Nat → Int32) (m_steps : Int32) (m_step : Nat → Int32) (m_rows : Nat → Int32) (m_cell : Nat → Int32) (m_overs : Nat → Int32) (m_sure : Nat → Int32) (hP : va_P D vwCl [(mo, .inr (4, [.int m_isWorked, .int m_lines, .ref m_product_a, .ref m_place_a, .ref m_ofX_a, .ref m_ofY_a, .int m_steps, .ref m_step_a, .ref m_rows_a, .ref m_cell_a, .ref m_overs_a, .ref m_sure_a])), (m_product_a, .inl (cI, 16, .inl m_product)), (m_place_a, .inl (cI, 16, .inl m_place)), (m_ofX_a, .inl (cI, 16, .inl m_ofX)), (m_ofY_a, .inl (cI, 16, .inl m_ofY)), (m_step_a, .inl (cI, 5, .inl m_step)), (m_rows_a, .inl (cI, 4, .inl m_rows)), (m_cell_a, .inl (cI, 96, .inl m_cell)), (m_overs_a, .inl (cI, 29, .inl m_overs)), (m_sure_a, .inl (cI, 24, .inl m_sure))] s.heap) (res : Int32) (hQ : ∀ (v : Int32) (pc : Nat) (ls : Array Slot), some v = some res → decode cX7_blame pc = .ok (.ireturn, 1) → W p l e rmX7_blame s m args below meth c s.heap [] 0 0 Q (F0 m pc ls [.int v])) (kE : Int32 → Option Int32) (hE : ∀ (y4 : Int32), kE y4 = some res → ∀ (ls : Array Slot), lv_has ls 12 [(3, .int x3), (4, .int y4)] → W p l e rmX7_blame s m args below meth c s.heap [] 0 0 Q (F0 m 139 ls [])) : ∀ (n : Nat), ∀ (x4 : Int32) (x7 : Int32), mlX7_blame_28 x1 x3 x5 m_lines m_product m_place m_ofX m_ofY kE n x4 x7 = some res → ∀ (ls : Array Slot), lv_has ls 12 [(0, .ref mo), (1, .long x1), (3, .int x3), (4, .int x4), (5, .long x5), (7, .int x7)] → W p l e rmX7_blame s m args below meth c s.heap [] 0 0 Q (F0 m 28 ls []) := by
  have C0 := C
  obtain ⟨hx, hb, hml, hown, hts, hr, hlk, hnm⟩ := C0
  intro n
  induction n with
  | zero => intro _ _ h; exact md_x h
  | succ n ih =>
    intro x4 x7 h ls hl
    rw [mlX7_blame_28] at h
    refine lv_iload hx hb dX7_blame_28 (lv_at hl 5 rfl) ?_
    refine lv_bipush (v := 8) hx hb dX7_blame_30 (by decide) ?_
    refine lv_aload_n hx hb dX7_blame_32 rfl (lv_at hl 0 rfl) ?_
    refine va_get (D := D) (ci := 4) (v := .int m_lines) (C := RX7) (T := TX7) (N := 12) hx hb hts wi_X7_blame_X7 hown hK hP 0 rfl rfl 1 (by decide) (hts _ wm_X7_blame_1) (fun _ h9 => h9) rfl dX7_blame_33 ?_
    refine lv_imul hx hb dX7_blame_36 ?_
    refine lv_icmp_ge (tgt := 139) hx hb dX7_blame_37 (by decide) (fun c3 => ?_) (fun c3 => ?_)
    · replace h := md_t c3 h
      exact hE x4 h ls (lv_sub hl [2, 3] rfl)
    replace h := md_f c3 h
    refine lv_aload_n hx hb dX7_blame_40 rfl (lv_at hl 0 rfl) ?_
    refine lv_iload hx hb dX7_blame_41 (lv_at hl 5 rfl) ?_
    refine lv_bipush (v := 8) hx hb dX7_blame_43 (by decide) ?_
    refine lv_idiv hx hb dX7_blame_45 (by decide) ?_
    refine lv_iload hx hb dX7_blame_46 (lv_at hl 5 rfl) ?_
    refine lv_iconst (v := 2) hx hb dX7_blame_48 (by decide) ?_
    refine lv_idiv hx hb dX7_blame_49 (by decide) ?_
    refine lv_iconst (v := 4) hx hb dX7_blame_50 (by decide) ?_
    refine lv_irem hx hb dX7_blame_51 (by decide) ?_
    refine lv_iload hx hb dX7_blame_52 (lv_at hl 5 rfl) ?_
    refine lv_iconst (v := 2) hx hb dX7_blame_54 (by decide) ?_
    refine lv_irem hx hb dX7_blame_55 (by decide) ?_
    obtain ⟨u4, hu4, h⟩ := md_b h
    refine kV C (ctX7_slipped l  hu4) gX7_blame_X7_slipped rfl kdvX7_slipped ⟨rfl, rfl⟩ ⟨by decide, by decide⟩ kW_blind (va_recv hK hP (ci := 4) (q0 := 0) rfl rfl) (kW_use hK (hP.sub (ws' := [(mo, .inr (4, [.int m_isWorked, .int m_lines, .ref m_product_a, .ref m_place_a, .ref m_ofX_a, .ref m_ofY_a, .int m_steps, .ref m_step_a, .ref m_rows_a, .ref m_cell_a, .ref m_overs_a, .ref m_sure_a])), (m_product_a, .inl (cI, 16, .inl m_product)), (m_place_a, .inl (cI, 16, .inl m_place)), (m_ofX_a, .inl (cI, 16, .inl m_ofX)), (m_ofY_a, .inl (cI, 16, .inl m_ofY)), (m_step_a, .inl (cI, 5, .inl m_step)), (m_rows_a, .inl (cI, 4, .inl m_rows)), (m_cell_a, .inl (cI, 96, .inl m_cell)), (m_overs_a, .inl (cI, 29, .inl m_overs)), (m_sure_a, .inl (cI, 24, .inl m_sure))]) [0, 1, 2, 3, 4, 5, 6, 7, 8, 9] rfl) kL_no) rfl hl [] rfl (Nat.le_of_ble_eq_true rfl) dX7_blame_56 ⟨by decide, by decide⟩ ?_
    refine lv_lstore (lv' := [(8, .long u4), (0, .ref mo), (1, .long x1), (3, .int x3), (4, .int x4), (5, .long x5), (7, .int x7)]) hx hb dX7_blame_59 hl (by decide) rfl (fun ls hl => ?_)
    refine lv_lload hx hb dX7_blame_61 (lv_at hl 5 rfl) ?_
    refine lv_aload_n hx hb dX7_blame_63 rfl (lv_at hl 1 rfl) ?_
    refine lv_iload hx hb dX7_blame_64 (lv_at hl 6 rfl) ?_
    refine lv_bipush (v := 8) hx hb dX7_blame_66 (by decide) ?_
    refine lv_idiv hx hb dX7_blame_68 (by decide) ?_
    obtain ⟨u5, hu5, h⟩ := md_b h
    refine kV C (ctX7_lineOf l  hu5) gX7_blame_X7_lineOf rfl kdvX7_lineOf ⟨rfl, rfl⟩ ⟨by decide, by decide⟩ kW_blind (va_recv hK hP (ci := 4) (q0 := 0) rfl rfl) (kW_use hK (hP.sub (ws' := [(mo, .inr (4, [.int m_isWorked, .int m_lines, .ref m_product_a, .ref m_place_a, .ref m_ofX_a, .ref m_ofY_a, .int m_steps, .ref m_step_a, .ref m_rows_a, .ref m_cell_a, .ref m_overs_a, .ref m_sure_a])), (m_product_a, .inl (cI, 16, .inl m_product)), (m_place_a, .inl (cI, 16, .inl m_place)), (m_ofX_a, .inl (cI, 16, .inl m_ofX)), (m_ofY_a, .inl (cI, 16, .inl m_ofY)), (m_step_a, .inl (cI, 5, .inl m_step)), (m_rows_a, .inl (cI, 4, .inl m_rows)), (m_cell_a, .inl (cI, 96, .inl m_cell)), (m_overs_a, .inl (cI, 29, .inl m_overs)), (m_sure_a, .inl (cI, 24, .inl m_sure))]) [0, 1, 2, 3, 4, 5, 6, 7, 8, 9] rfl) kL_no) rfl hl [.long x5] rfl (Nat.le_of_ble_eq_true rfl) dX7_blame_69 ⟨by decide, by decide⟩ ?_
    refine lv_lsub hx hb dX7_blame_72 ?_
    refine lv_lload hx hb dX7_blame_73 (lv_at hl 0 rfl) ?_
    refine lv_ladd hx hb dX7_blame_75 ?_
    refine lv_topl (fun x10_6 ex10_6 => ?_)
    replace h := md_le ex10_6 h
    refine lv_lstore (lv' := [(10, .long x10_6), (8, .long u4), (0, .ref mo), (1, .long x1), (3, .int x3), (4, .int x4), (5, .long x5), (7, .int x7)]) hx hb dX7_blame_76 hl (by decide) rfl (fun ls hl => ?_)
    refine lv_lload hx hb dX7_blame_78 (lv_at hl 1 rfl) ?_
    refine lv_lconst (v := 0) hx hb dX7_blame_80 (by decide) ?_
    refine W.lcmp hx hb dX7_blame_81 ?_
    obtain ⟨kJ133, ekJ133, h⟩ := md_jo h
    have KJ133 : ∀ (x4_133 : Int32), kJ133 x4_133 = some res → ∀ (ls : Array Slot), lv_has ls 12 [(0, .ref mo), (1, .long x1), (3, .int x3), (4, .int x4_133), (5, .long x5), (7, .int x7)] → W p l e rmX7_blame s m args below meth c s.heap [] 0 0 Q (F0 m 133 ls []) := by
      intro x4_133 h ls hl
      rw [ekJ133] at h
      obtain ⟨x7_7, ex7_7⟩ : ∃ y : Int32, y = (x7 + (1 : Int32)) := ⟨_, rfl⟩
      replace h := md_le ex7_7 h
      refine lv_iinc (v := x7_7) (lv' := [(7, .int x7_7), (0, .ref mo), (1, .long x1), (3, .int x3), (4, .int x4_133), (5, .long x5)]) hx hb dX7_blame_133 hl (k := 5) rfl (by rw [ex7_7]; rfl) (by decide) rfl (fun ls hl => ?_)
      refine lv_goto (tgt := 28) hx hb dX7_blame_136 (by decide) ?_
      exact ih x4_133 x7_7 h ls (lv_sub hl [1, 2, 3, 4, 5, 0] rfl)
    clear ekJ133
    refine lv_if_lt (tgt := 133) hx hb dX7_blame_82 (by decide) (fun c8 => ?_) (fun c8 => ?_)
    · replace c8 := (lg_cmp_lt _ _).mp c8
      replace h := md_t c8 h
      exact KJ133 x4 h ls (lv_sub hl [2, 3, 4, 5, 6, 7] rfl)
    replace c8 := fun q9 => c8 ((lg_cmp_lt _ _).mpr q9)
    replace h := md_f c8 h
    refine lv_lload hx hb dX7_blame_85 (lv_at hl 0 rfl) ?_
    refine lv_lload_n hx hb dX7_blame_87 rfl (lv_at hl 3 rfl) ?_
    refine W.lcmp hx hb dX7_blame_88 ?_
    refine lv_if_ne (tgt := 133) hx hb dX7_blame_89 (by decide) (fun c9 => ?_) (fun c9 => ?_)
    · replace c9 := fun q9 => c9 ((lg_cmp_eq _ _).mpr q9)
      replace h := md_f c9 h
      exact KJ133 x4 h ls (lv_sub hl [2, 3, 4, 5, 6, 7] rfl)
    replace c9 := (lg_cmp_eq _ _).mp c9
    replace h := md_t c9 h
    refine lv_lload hx hb dX7_blame_92 (lv_at hl 0 rfl) ?_
    refine lv_lload hx hb dX7_blame_94 (lv_at hl 6 rfl) ?_
    refine W.lcmp hx hb dX7_blame_96 ?_
    refine lv_if_eq (tgt := 133) hx hb dX7_blame_97 (by decide) (fun c10 => ?_) (fun c10 => ?_)
    · replace c10 := (lg_cmp_eq _ _).mp c10
      replace h := md_t c10 h
      exact KJ133 x4 h ls (lv_sub hl [2, 3, 4, 5, 6, 7] rfl)
    replace c10 := fun q9 => c10 ((lg_cmp_eq _ _).mpr q9)
    replace h := md_f c10 h
    refine lv_iload hx hb dX7_blame_100 (lv_at hl 5 rfl) ?_
    refine lv_iload_n hx hb dX7_blame_102 rfl (lv_at hl 4 rfl) ?_
    refine lv_icmp_ne (tgt := 130) hx hb dX7_blame_103 (by decide) (fun c11 => ?_) (fun c11 => ?_)
    · replace h := md_f c11 h
      obtain ⟨x4_12, ex4_12⟩ : ∃ y : Int32, y = (x4 + (1 : Int32)) := ⟨_, rfl⟩
      replace h := md_le ex4_12 h
      refine lv_iinc (v := x4_12) (lv' := [(4, .int x4_12), (10, .long x10_6), (8, .long u4), (0, .ref mo), (1, .long x1), (3, .int x3), (5, .long x5), (7, .int x7)]) hx hb dX7_blame_130 hl (k := 5) rfl (by rw [ex4_12]; rfl) (by decide) rfl (fun ls hl => ?_)
      exact KJ133 x4_12 h ls (lv_sub hl [3, 4, 5, 0, 6, 7] rfl)
    replace h := md_t c11 h
    refine lv_bipush (v := 100) hx hb dX7_blame_106 (by decide) ?_
    refine lv_iload hx hb dX7_blame_108 (lv_at hl 7 rfl) ?_
    refine lv_bipush (v := 8) hx hb dX7_blame_110 (by decide) ?_
    refine lv_idiv hx hb dX7_blame_112 (by decide) ?_
    refine lv_imul hx hb dX7_blame_113 ?_
    refine lv_bipush (v := 10) hx hb dX7_blame_114 (by decide) ?_
    refine lv_iload hx hb dX7_blame_116 (lv_at hl 7 rfl) ?_
    refine lv_iconst (v := 2) hx hb dX7_blame_118 (by decide) ?_
    refine lv_idiv hx hb dX7_blame_119 (by decide) ?_
    refine lv_iconst (v := 4) hx hb dX7_blame_120 (by decide) ?_
    refine lv_irem hx hb dX7_blame_121 (by decide) ?_
    refine lv_imul hx hb dX7_blame_122 ?_
    refine lv_iadd hx hb dX7_blame_123 ?_
    refine lv_iload hx hb dX7_blame_124 (lv_at hl 7 rfl) ?_
    refine lv_iconst (v := 2) hx hb dX7_blame_126 (by decide) ?_
    refine lv_irem hx hb dX7_blame_127 (by decide) ?_
    refine lv_iadd hx hb dX7_blame_128 ?_
    exact hQ ((((100 : Int32) * (x7 / (8 : Int32))) + ((10 : Int32) * ((x7 / (2 : Int32)) - (x7 / (2 : Int32)) / (4 : Int32) * (4 : Int32)))) + (x7 - x7 / (2 : Int32) * (2 : Int32))) 129 ls h dX7_blame_129
def mX7_blame (m_isWorked : Int32) (m_lines : Int32) (m_product : Nat → Int32) (m_place : Nat → Int32) (m_ofX : Nat → Int32) (m_ofY : Nat → Int32) (p1 : Int64) (p2 : Int32) : Option Int32 := (if m_isWorked = 0 then (some (-3 : Int32)) else (Option.bind (mX7_sumOf m_product m_place (m_lines - (1 : Int32))) (fun u2 => (mlX7_blame_28 p1 p2 u2 m_lines m_product m_place m_ofX m_ofY (fun (y4_139 : Int32) => (if p2 = (-1 : Int32) then (some y4_139) else (some (-6 : Int32)))) kN (0 : Int32) (0 : Int32)))))
set_option maxHeartbeats 4000000 in
set_option maxRecDepth 100000 in
theorem bX7_blame {p : Program} {l : Launch} {e : Env} {s : State} {m : MethodId} {args : Array Value} {below : List Frame} {meth : Method} {c : Code} {Q : State → Prop} (C : kc p s m args meth c cX7_blame 12 RX7 yX7_blame.name wsX7_blame (some .int)) {D : va_G} {cI cT : ClassId} {mo m_product_a m_place_a m_ofX_a m_ofY_a m_step_a m_rows_a m_cell_a m_overs_a m_sure_a : Nat} (p1 : Int64) (p2 : Int32) (hK : va_K D vwCl (kTy cI cT) s) (m_isWorked : Int32) (m_lines : Int32) (m_product : Nat → Int32) (m_place : Nat → Int32) (m_ofX : Nat → Int32) (m_ofY : Nat → Int32) (m_steps : Int32) (m_step : Nat → Int32) (m_rows : Nat → Int32) (m_cell : Nat → Int32) (m_overs : Nat → Int32) (m_sure : Nat → Int32) (hP : va_P D vwCl [(mo, .inr (4, [.int m_isWorked, .int m_lines, .ref m_product_a, .ref m_place_a, .ref m_ofX_a, .ref m_ofY_a, .int m_steps, .ref m_step_a, .ref m_rows_a, .ref m_cell_a, .ref m_overs_a, .ref m_sure_a])), (m_product_a, .inl (cI, 16, .inl m_product)), (m_place_a, .inl (cI, 16, .inl m_place)), (m_ofX_a, .inl (cI, 16, .inl m_ofX)), (m_ofY_a, .inl (cI, 16, .inl m_ofY)), (m_step_a, .inl (cI, 5, .inl m_step)), (m_rows_a, .inl (cI, 4, .inl m_rows)), (m_cell_a, .inl (cI, 96, .inl m_cell)), (m_overs_a, .inl (cI, 29, .inl m_overs)), (m_sure_a, .inl (cI, 24, .inl m_sure))] s.heap) (res : Int32) (hQ : ∀ (v : Int32) (pc : Nat) (ls : Array Slot), some v = some res → decode cX7_blame pc = .ok (.ireturn, 1) → W p l e rmX7_blame s m args below meth c s.heap [] 0 0 Q (F0 m pc ls [.int v])) : mX7_blame m_isWorked m_lines m_product m_place m_ofX m_ofY p1 p2 = some res → ∀ (ls : Array Slot), lv_has ls 12 [(0, .ref mo), (1, .long p1), (3, .int p2)] → W p l e rmX7_blame s m args below meth c s.heap [] 0 0 Q (F0 m 0 ls []) := by
  intro h ls hl
  have C0 := C
  obtain ⟨hx, hb, hml, hown, hts, hr, hlk, hnm⟩ := C0
  rw [mX7_blame] at h
  refine lv_aload_n hx hb dX7_blame_0 rfl (lv_at hl 0 rfl) ?_
  refine va_get (D := D) (ci := 4) (v := .int m_isWorked) (C := RX7) (T := TX7) (N := 12) hx hb hts wi_X7_blame_X7 hown hK hP 0 rfl rfl 0 (by decide) (hts _ wm_X7_blame_0) (fun _ h9 => h9) rfl dX7_blame_1 ?_
  refine lv_if_ne (tgt := 10) hx hb dX7_blame_4 (by decide) (fun c1 => ?_) (fun c1 => ?_)
  · replace h := md_f c1 h
    refine lv_iconst (v := 0) hx hb dX7_blame_10 (by decide) ?_
    refine lv_istore (lv' := [(4, .int (0 : Int32)), (0, .ref mo), (1, .long p1), (3, .int p2)]) hx hb dX7_blame_11 hl (by decide) rfl (fun ls hl => ?_)
    refine lv_aload_n hx hb dX7_blame_13 rfl (lv_at hl 1 rfl) ?_
    refine lv_aload_n hx hb dX7_blame_14 rfl (lv_at hl 1 rfl) ?_
    refine va_get (D := D) (ci := 4) (v := .int m_lines) (C := RX7) (T := TX7) (N := 12) hx hb hts wi_X7_blame_X7 hown hK hP 0 rfl rfl 1 (by decide) (hts _ wm_X7_blame_1) (fun _ h9 => h9) rfl dX7_blame_15 ?_
    refine lv_iconst (v := 1) hx hb dX7_blame_18 (by decide) ?_
    refine lv_isub hx hb dX7_blame_19 ?_
    obtain ⟨u2, hu2, h⟩ := md_b h
    refine kV C (ctX7_sumOf l  hu2) gX7_blame_X7_sumOf rfl kdvX7_sumOf ⟨rfl, rfl⟩ ⟨by decide, by decide⟩ kW_blind (va_recv hK hP (ci := 4) (q0 := 0) rfl rfl) (kW_use hK (hP.sub (ws' := [(mo, .inr (4, [.int m_isWorked, .int m_lines, .ref m_product_a, .ref m_place_a, .ref m_ofX_a, .ref m_ofY_a, .int m_steps, .ref m_step_a, .ref m_rows_a, .ref m_cell_a, .ref m_overs_a, .ref m_sure_a])), (m_product_a, .inl (cI, 16, .inl m_product)), (m_place_a, .inl (cI, 16, .inl m_place)), (m_ofX_a, .inl (cI, 16, .inl m_ofX)), (m_ofY_a, .inl (cI, 16, .inl m_ofY)), (m_step_a, .inl (cI, 5, .inl m_step)), (m_rows_a, .inl (cI, 4, .inl m_rows)), (m_cell_a, .inl (cI, 96, .inl m_cell)), (m_overs_a, .inl (cI, 29, .inl m_overs)), (m_sure_a, .inl (cI, 24, .inl m_sure))]) [0, 1, 2, 3, 4, 5, 6, 7, 8, 9] rfl) kL_no) rfl hl [] rfl (Nat.le_of_ble_eq_true rfl) dX7_blame_20 ⟨by decide, by decide⟩ ?_
    refine lv_lstore (lv' := [(5, .long u2), (4, .int (0 : Int32)), (0, .ref mo), (1, .long p1), (3, .int p2)]) hx hb dX7_blame_23 hl (by decide) rfl (fun ls hl => ?_)
    refine lv_iconst (v := 0) hx hb dX7_blame_25 (by decide) ?_
    refine lv_istore (lv' := [(7, .int (0 : Int32)), (5, .long u2), (4, .int (0 : Int32)), (0, .ref mo), (1, .long p1), (3, .int p2)]) hx hb dX7_blame_26 hl (by decide) rfl (fun ls hl => ?_)
    refine lX7_blame_28 (mo := mo) (m_product_a := m_product_a) (m_place_a := m_place_a) (m_ofX_a := m_ofX_a) (m_ofY_a := m_ofY_a) (m_step_a := m_step_a) (m_rows_a := m_rows_a) (m_cell_a := m_cell_a) (m_overs_a := m_overs_a) (m_sure_a := m_sure_a) C hK p1 p2 u2 m_isWorked m_lines m_product m_place m_ofX m_ofY m_steps m_step m_rows m_cell m_overs m_sure hP res hQ _ (fun y4_139 h ls hl => ?_) kN (0 : Int32) (0 : Int32) h ls (lv_sub hl [3, 4, 5, 2, 1, 0] rfl)
    refine lv_iload_n hx hb dX7_blame_139 rfl (lv_at hl 0 rfl) ?_
    refine lv_iconst (v := -1) hx hb dX7_blame_140 (by decide) ?_
    refine lv_icmp_ne (tgt := 149) hx hb dX7_blame_141 (by decide) (fun c13 => ?_) (fun c13 => ?_)
    · replace h := md_f c13 h
      refine lv_bipush (v := -6) hx hb dX7_blame_149 (by decide) ?_
      exact hQ (-6 : Int32) 151 ls h dX7_blame_151
    replace h := md_t c13 h
    refine lv_iload hx hb dX7_blame_144 (lv_at hl 1 rfl) ?_
    refine lv_goto (tgt := 151) hx hb dX7_blame_146 (by decide) ?_
    exact hQ y4_139 151 ls h dX7_blame_151
  replace h := md_t c1 h
  refine lv_bipush (v := -3) hx hb dX7_blame_7 (by decide) ?_
  exact hQ (-3 : Int32) 9 ls h dX7_blame_9
set_option maxHeartbeats 4000000 in
theorem ctX7_blame (l : Launch) {D : va_G} {cI cT : ClassId} {mo m_product_a m_place_a m_ofX_a m_ofY_a m_step_a m_rows_a m_cell_a m_overs_a m_sure_a : Nat} {m_isWorked : Int32} {m_lines : Int32} {m_product : Nat → Int32} {m_place : Nat → Int32} {m_ofX : Nat → Int32} {m_ofY : Nat → Int32} {m_steps : Int32} {m_step : Nat → Int32} {m_rows : Nat → Int32} {m_cell : Nat → Int32} {m_overs : Nat → Int32} {m_sure : Nat → Int32} {p1 : Int64} {p2 : Int32} {res : Int32} (hm : mX7_blame m_isWorked m_lines m_product m_place m_ofX m_ofY p1 p2 = some res) : Met l yX7_blame wsX7_blame rmX7_blame (va_Pc [.ref mo, .long p1, .int p2] (kW D cI cT [(mo, .inr (4, [.int m_isWorked, .int m_lines, .ref m_product_a, .ref m_place_a, .ref m_ofX_a, .ref m_ofY_a, .int m_steps, .ref m_step_a, .ref m_rows_a, .ref m_cell_a, .ref m_overs_a, .ref m_sure_a])), (m_product_a, .inl (cI, 16, .inl m_product)), (m_place_a, .inl (cI, 16, .inl m_place)), (m_ofX_a, .inl (cI, 16, .inl m_ofX)), (m_ofY_a, .inl (cI, 16, .inl m_ofY)), (m_step_a, .inl (cI, 5, .inl m_step)), (m_rows_a, .inl (cI, 4, .inl m_rows)), (m_cell_a, .inl (cI, 96, .inl m_cell)), (m_overs_a, .inl (cI, 29, .inl m_overs)), (m_sure_a, .inl (cI, 24, .inl m_sure))] none (fun _ => False))) (kR (.int res)) 0 0 (fun _ => False) :=
  km (by decide) rfl (Nat.le_of_ble_eq_true rfl) (fun p e s m below meth c ls C hB hl => bX7_blame C p1 p2 hB.1 m_isWorked m_lines m_product m_place m_ofX m_ofY m_steps m_step m_rows m_cell m_overs m_sure hB.2.1 res (fun v pc ls h hd => kr_i C h hd) hm ls hl)
theorem wm_X7_isRow_0 : Cond.fieldLink RX7 25 "SixtyTabletModel" "rows" "[I" ∈ wsX7_isRow := by decide +kernel
theorem wi_X7_isRow_X7 : ∀ w ∈ wsX70, w ∈ wsX7_isRow := by decide +kernel
theorem kdvX7_isRow : yX7_isRow.cls = RX7 ∧ yX7_isRow.cls ≠ "java/lang/invoke/MethodHandle" ∧ yX7_isRow.cls ≠ "java/lang/invoke/VarHandle" ∧ (parseMethodDescriptor yX7_isRow.desc).map (fun d => d.parameters.length) = some 2 := by decide +kernel
abbrev rmX7_isRow : Room := { frames := 2, cells := 0, slots := 0, locals := 45 }
def mX7_isRow (m_rows : Nat → Int32) (p1 : Int32) (p2 : Int32) : Option Int32 := (Option.bind (mX7_isTablet p1) (fun u1 => (if u1 = 0 then (some (0 : Int32)) else (if p1 < 0 ∨ 4 ≤ (Int32.toNatClampNeg p1) then none else (Option.bind (mX7_in (Int32.toInt64 p2) (0 : Int64) (Int32.toInt64 ((m_rows (Int32.toNatClampNeg p1)) - (1 : Int32)))) (fun u4 => (if u4 = 0 then (some (0 : Int32)) else (some (1 : Int32)))))))))
set_option maxHeartbeats 4000000 in
set_option maxRecDepth 100000 in
theorem bX7_isRow {p : Program} {l : Launch} {e : Env} {s : State} {m : MethodId} {args : Array Value} {below : List Frame} {meth : Method} {c : Code} {Q : State → Prop} (C : kc p s m args meth c cX7_isRow 3 RX7 yX7_isRow.name wsX7_isRow (some .boolean)) {D : va_G} {cI cT : ClassId} {mo m_product_a m_place_a m_ofX_a m_ofY_a m_step_a m_rows_a m_cell_a m_overs_a m_sure_a : Nat} (p1 : Int32) (p2 : Int32) (hK : va_K D vwCl (kTy cI cT) s) (m_isWorked : Int32) (m_lines : Int32) (m_product : Nat → Int32) (m_place : Nat → Int32) (m_ofX : Nat → Int32) (m_ofY : Nat → Int32) (m_steps : Int32) (m_step : Nat → Int32) (m_rows : Nat → Int32) (m_cell : Nat → Int32) (m_overs : Nat → Int32) (m_sure : Nat → Int32) (hP : va_P D vwCl [(mo, .inr (4, [.int m_isWorked, .int m_lines, .ref m_product_a, .ref m_place_a, .ref m_ofX_a, .ref m_ofY_a, .int m_steps, .ref m_step_a, .ref m_rows_a, .ref m_cell_a, .ref m_overs_a, .ref m_sure_a])), (m_product_a, .inl (cI, 16, .inl m_product)), (m_place_a, .inl (cI, 16, .inl m_place)), (m_ofX_a, .inl (cI, 16, .inl m_ofX)), (m_ofY_a, .inl (cI, 16, .inl m_ofY)), (m_step_a, .inl (cI, 5, .inl m_step)), (m_rows_a, .inl (cI, 4, .inl m_rows)), (m_cell_a, .inl (cI, 96, .inl m_cell)), (m_overs_a, .inl (cI, 29, .inl m_overs)), (m_sure_a, .inl (cI, 24, .inl m_sure))] s.heap) (res : Int32) (hQ : ∀ (v : Int32) (pc : Nat) (ls : Array Slot), v = 0 ∨ v = 1 → some v = some res → decode cX7_isRow pc = .ok (.ireturn, 1) → W p l e rmX7_isRow s m args below meth c s.heap [] 0 0 Q (F0 m pc ls [.int v])) : mX7_isRow m_rows p1 p2 = some res → ∀ (ls : Array Slot), lv_has ls 3 [(0, .ref mo), (1, .int p1), (2, .int p2)] → W p l e rmX7_isRow s m args below meth c s.heap [] 0 0 Q (F0 m 0 ls []) := by
  intro h ls hl
  have C0 := C
  obtain ⟨hx, hb, hml, hown, hts, hr, hlk, hnm⟩ := C0
  rw [mX7_isRow] at h
  refine lv_iload_n hx hb dX7_isRow_0 rfl (lv_at hl 1 rfl) ?_
  obtain ⟨u1, hu1, h⟩ := md_b h
  refine kS C (ctX7_isTablet l  hu1) gX7_isRow_X7_isTablet rfl kdX7_isTablet ⟨rfl, rfl⟩ ⟨by decide, by decide⟩ kT_blind (fun _ _ _ => trivial) rfl hl [] rfl (Nat.le_of_ble_eq_true rfl) dX7_isRow_1 ⟨by decide, by decide⟩ ?_
  refine lv_if_eq (tgt := 29) hx hb dX7_isRow_4 (by decide) (fun c2 => ?_) (fun c2 => ?_)
  · replace h := md_t c2 h
    refine lv_iconst (v := 0) hx hb dX7_isRow_29 (by decide) ?_
    exact hQ (0 : Int32) 30 ls (by decide) h dX7_isRow_30
  replace h := md_f c2 h
  refine lv_iload_n hx hb dX7_isRow_7 rfl (lv_at hl 2 rfl) ?_
  refine lv_i2l hx hb dX7_isRow_8 rfl ?_
  refine lv_lconst (v := 0) hx hb dX7_isRow_9 (by decide) ?_
  refine lv_aload_n hx hb dX7_isRow_10 rfl (lv_at hl 0 rfl) ?_
  refine va_get (D := D) (ci := 4) (v := .ref m_rows_a) (C := RX7) (T := TX7) (N := 12) hx hb hts wi_X7_isRow_X7 hown hK hP 0 rfl rfl 8 (by decide) (hts _ wm_X7_isRow_0) (fun _ h9 => h9) rfl dX7_isRow_11 ?_
  refine lv_iload_n hx hb dX7_isRow_14 rfl (lv_at hl 1 rfl) ?_
  obtain ⟨hin3, h⟩ := md_g h
  refine va_iald hx hb hK hP 6 0 rfl rfl hin3 dX7_isRow_15 ?_
  refine lv_iconst (v := 1) hx hb dX7_isRow_16 (by decide) ?_
  refine lv_isub hx hb dX7_isRow_17 ?_
  refine lv_i2l hx hb dX7_isRow_18 rfl ?_
  obtain ⟨u4, hu4, h⟩ := md_b h
  refine kS C (ctX7_in l  hu4) gX7_isRow_X7_in rfl kdX7_in ⟨rfl, rfl⟩ ⟨by decide, by decide⟩ kT_blind (fun _ _ _ => trivial) rfl hl [] rfl (Nat.le_of_ble_eq_true rfl) dX7_isRow_19 ⟨by decide, by decide⟩ ?_
  refine lv_if_eq (tgt := 29) hx hb dX7_isRow_22 (by decide) (fun c5 => ?_) (fun c5 => ?_)
  · replace h := md_t c5 h
    refine lv_iconst (v := 0) hx hb dX7_isRow_29 (by decide) ?_
    exact hQ (0 : Int32) 30 ls (by decide) h dX7_isRow_30
  replace h := md_f c5 h
  refine lv_iconst (v := 1) hx hb dX7_isRow_25 (by decide) ?_
  refine lv_goto (tgt := 30) hx hb dX7_isRow_26 (by decide) ?_
  exact hQ (1 : Int32) 30 ls (by decide) h dX7_isRow_30
set_option maxHeartbeats 4000000 in
theorem ctX7_isRow (l : Launch) {D : va_G} {cI cT : ClassId} {mo m_product_a m_place_a m_ofX_a m_ofY_a m_step_a m_rows_a m_cell_a m_overs_a m_sure_a : Nat} {m_isWorked : Int32} {m_lines : Int32} {m_product : Nat → Int32} {m_place : Nat → Int32} {m_ofX : Nat → Int32} {m_ofY : Nat → Int32} {m_steps : Int32} {m_step : Nat → Int32} {m_rows : Nat → Int32} {m_cell : Nat → Int32} {m_overs : Nat → Int32} {m_sure : Nat → Int32} {p1 : Int32} {p2 : Int32} {res : Int32} (hm : mX7_isRow m_rows p1 p2 = some res) : Met l yX7_isRow wsX7_isRow rmX7_isRow (va_Pc [.ref mo, .int p1, .int p2] (kW D cI cT [(mo, .inr (4, [.int m_isWorked, .int m_lines, .ref m_product_a, .ref m_place_a, .ref m_ofX_a, .ref m_ofY_a, .int m_steps, .ref m_step_a, .ref m_rows_a, .ref m_cell_a, .ref m_overs_a, .ref m_sure_a])), (m_product_a, .inl (cI, 16, .inl m_product)), (m_place_a, .inl (cI, 16, .inl m_place)), (m_ofX_a, .inl (cI, 16, .inl m_ofX)), (m_ofY_a, .inl (cI, 16, .inl m_ofY)), (m_step_a, .inl (cI, 5, .inl m_step)), (m_rows_a, .inl (cI, 4, .inl m_rows)), (m_cell_a, .inl (cI, 96, .inl m_cell)), (m_overs_a, .inl (cI, 29, .inl m_overs)), (m_sure_a, .inl (cI, 24, .inl m_sure))] none (fun _ => False))) (kR (.int res)) 0 0 (fun _ => False) :=
  km (by decide) rfl (Nat.le_of_ble_eq_true rfl) (fun p e s m below meth c ls C hB hl => bX7_isRow C p1 p2 hB.1 m_isWorked m_lines m_product m_place m_ofX m_ofY m_steps m_step m_rows m_cell m_overs m_sure hB.2.1 res (fun v pc ls hz h hd => kr_z C hz h hd) hm ls hl)
theorem wm_X7_isCell_0 : Cond.constantLong RX7 99 (2) ∈ wsX7_isCell := by decide +kernel
theorem kdvX7_isCell : yX7_isCell.cls = RX7 ∧ yX7_isCell.cls ≠ "java/lang/invoke/MethodHandle" ∧ yX7_isCell.cls ≠ "java/lang/invoke/VarHandle" ∧ (parseMethodDescriptor yX7_isCell.desc).map (fun d => d.parameters.length) = some 3 := by decide +kernel
abbrev rmX7_isCell : Room := { frames := 3, cells := 0, slots := 0, locals := 67 }
def mX7_isCell (m_rows : Nat → Int32) (p1 : Int32) (p2 : Int32) (p3 : Int32) : Option Int32 := (Option.bind (mX7_isRow m_rows p1 p2) (fun u1 => (if u1 = 0 then (some (0 : Int32)) else (Option.bind (mX7_in (Int32.toInt64 p3) (0 : Int64) (2 : Int64)) (fun u3 => (if u3 = 0 then (some (0 : Int32)) else (some (1 : Int32))))))))
set_option maxHeartbeats 4000000 in
set_option maxRecDepth 100000 in
theorem bX7_isCell {p : Program} {l : Launch} {e : Env} {s : State} {m : MethodId} {args : Array Value} {below : List Frame} {meth : Method} {c : Code} {Q : State → Prop} (C : kc p s m args meth c cX7_isCell 4 RX7 yX7_isCell.name wsX7_isCell (some .boolean)) {D : va_G} {cI cT : ClassId} {mo m_product_a m_place_a m_ofX_a m_ofY_a m_step_a m_rows_a m_cell_a m_overs_a m_sure_a : Nat} (p1 : Int32) (p2 : Int32) (p3 : Int32) (hK : va_K D vwCl (kTy cI cT) s) (m_isWorked : Int32) (m_lines : Int32) (m_product : Nat → Int32) (m_place : Nat → Int32) (m_ofX : Nat → Int32) (m_ofY : Nat → Int32) (m_steps : Int32) (m_step : Nat → Int32) (m_rows : Nat → Int32) (m_cell : Nat → Int32) (m_overs : Nat → Int32) (m_sure : Nat → Int32) (hP : va_P D vwCl [(mo, .inr (4, [.int m_isWorked, .int m_lines, .ref m_product_a, .ref m_place_a, .ref m_ofX_a, .ref m_ofY_a, .int m_steps, .ref m_step_a, .ref m_rows_a, .ref m_cell_a, .ref m_overs_a, .ref m_sure_a])), (m_product_a, .inl (cI, 16, .inl m_product)), (m_place_a, .inl (cI, 16, .inl m_place)), (m_ofX_a, .inl (cI, 16, .inl m_ofX)), (m_ofY_a, .inl (cI, 16, .inl m_ofY)), (m_step_a, .inl (cI, 5, .inl m_step)), (m_rows_a, .inl (cI, 4, .inl m_rows)), (m_cell_a, .inl (cI, 96, .inl m_cell)), (m_overs_a, .inl (cI, 29, .inl m_overs)), (m_sure_a, .inl (cI, 24, .inl m_sure))] s.heap) (res : Int32) (hQ : ∀ (v : Int32) (pc : Nat) (ls : Array Slot), v = 0 ∨ v = 1 → some v = some res → decode cX7_isCell pc = .ok (.ireturn, 1) → W p l e rmX7_isCell s m args below meth c s.heap [] 0 0 Q (F0 m pc ls [.int v])) : mX7_isCell m_rows p1 p2 p3 = some res → ∀ (ls : Array Slot), lv_has ls 4 [(0, .ref mo), (1, .int p1), (2, .int p2), (3, .int p3)] → W p l e rmX7_isCell s m args below meth c s.heap [] 0 0 Q (F0 m 0 ls []) := by
  intro h ls hl
  have C0 := C
  obtain ⟨hx, hb, hml, hown, hts, hr, hlk, hnm⟩ := C0
  rw [mX7_isCell] at h
  refine lv_aload_n hx hb dX7_isCell_0 rfl (lv_at hl 0 rfl) ?_
  refine lv_iload_n hx hb dX7_isCell_1 rfl (lv_at hl 1 rfl) ?_
  refine lv_iload_n hx hb dX7_isCell_2 rfl (lv_at hl 2 rfl) ?_
  obtain ⟨u1, hu1, h⟩ := md_b h
  refine kV C (ctX7_isRow l  hu1) gX7_isCell_X7_isRow rfl kdvX7_isRow ⟨rfl, rfl⟩ ⟨by decide, by decide⟩ kW_blind (va_recv hK hP (ci := 4) (q0 := 0) rfl rfl) (kW_use hK (hP.sub (ws' := [(mo, .inr (4, [.int m_isWorked, .int m_lines, .ref m_product_a, .ref m_place_a, .ref m_ofX_a, .ref m_ofY_a, .int m_steps, .ref m_step_a, .ref m_rows_a, .ref m_cell_a, .ref m_overs_a, .ref m_sure_a])), (m_product_a, .inl (cI, 16, .inl m_product)), (m_place_a, .inl (cI, 16, .inl m_place)), (m_ofX_a, .inl (cI, 16, .inl m_ofX)), (m_ofY_a, .inl (cI, 16, .inl m_ofY)), (m_step_a, .inl (cI, 5, .inl m_step)), (m_rows_a, .inl (cI, 4, .inl m_rows)), (m_cell_a, .inl (cI, 96, .inl m_cell)), (m_overs_a, .inl (cI, 29, .inl m_overs)), (m_sure_a, .inl (cI, 24, .inl m_sure))]) [0, 1, 2, 3, 4, 5, 6, 7, 8, 9] rfl) kL_no) rfl hl [] rfl (Nat.le_of_ble_eq_true rfl) dX7_isCell_3 ⟨by decide, by decide⟩ ?_
  refine lv_if_eq (tgt := 25) hx hb dX7_isCell_6 (by decide) (fun c2 => ?_) (fun c2 => ?_)
  · replace h := md_t c2 h
    refine lv_iconst (v := 0) hx hb dX7_isCell_25 (by decide) ?_
    exact hQ (0 : Int32) 26 ls (by decide) h dX7_isCell_26
  replace h := md_f c2 h
  refine lv_iload_n hx hb dX7_isCell_9 rfl (lv_at hl 3 rfl) ?_
  refine lv_i2l hx hb dX7_isCell_10 rfl ?_
  refine lv_lconst (v := 0) hx hb dX7_isCell_11 (by decide) ?_
  refine lv_ldc2 hx hb hown (hts _ wm_X7_isCell_0) dX7_isCell_12 ?_
  obtain ⟨u3, hu3, h⟩ := md_b h
  refine kS C (ctX7_in l  hu3) gX7_isCell_X7_in rfl kdX7_in ⟨rfl, rfl⟩ ⟨by decide, by decide⟩ kT_blind (fun _ _ _ => trivial) rfl hl [] rfl (Nat.le_of_ble_eq_true rfl) dX7_isCell_15 ⟨by decide, by decide⟩ ?_
  refine lv_if_eq (tgt := 25) hx hb dX7_isCell_18 (by decide) (fun c4 => ?_) (fun c4 => ?_)
  · replace h := md_t c4 h
    refine lv_iconst (v := 0) hx hb dX7_isCell_25 (by decide) ?_
    exact hQ (0 : Int32) 26 ls (by decide) h dX7_isCell_26
  replace h := md_f c4 h
  refine lv_iconst (v := 1) hx hb dX7_isCell_21 (by decide) ?_
  refine lv_goto (tgt := 26) hx hb dX7_isCell_22 (by decide) ?_
  exact hQ (1 : Int32) 26 ls (by decide) h dX7_isCell_26
set_option maxHeartbeats 4000000 in
theorem ctX7_isCell (l : Launch) {D : va_G} {cI cT : ClassId} {mo m_product_a m_place_a m_ofX_a m_ofY_a m_step_a m_rows_a m_cell_a m_overs_a m_sure_a : Nat} {m_isWorked : Int32} {m_lines : Int32} {m_product : Nat → Int32} {m_place : Nat → Int32} {m_ofX : Nat → Int32} {m_ofY : Nat → Int32} {m_steps : Int32} {m_step : Nat → Int32} {m_rows : Nat → Int32} {m_cell : Nat → Int32} {m_overs : Nat → Int32} {m_sure : Nat → Int32} {p1 : Int32} {p2 : Int32} {p3 : Int32} {res : Int32} (hm : mX7_isCell m_rows p1 p2 p3 = some res) : Met l yX7_isCell wsX7_isCell rmX7_isCell (va_Pc [.ref mo, .int p1, .int p2, .int p3] (kW D cI cT [(mo, .inr (4, [.int m_isWorked, .int m_lines, .ref m_product_a, .ref m_place_a, .ref m_ofX_a, .ref m_ofY_a, .int m_steps, .ref m_step_a, .ref m_rows_a, .ref m_cell_a, .ref m_overs_a, .ref m_sure_a])), (m_product_a, .inl (cI, 16, .inl m_product)), (m_place_a, .inl (cI, 16, .inl m_place)), (m_ofX_a, .inl (cI, 16, .inl m_ofX)), (m_ofY_a, .inl (cI, 16, .inl m_ofY)), (m_step_a, .inl (cI, 5, .inl m_step)), (m_rows_a, .inl (cI, 4, .inl m_rows)), (m_cell_a, .inl (cI, 96, .inl m_cell)), (m_overs_a, .inl (cI, 29, .inl m_overs)), (m_sure_a, .inl (cI, 24, .inl m_sure))] none (fun _ => False))) (kR (.int res)) 0 0 (fun _ => False) :=
  km (by decide) rfl (Nat.le_of_ble_eq_true rfl) (fun p e s m below meth c ls C hB hl => bX7_isCell C p1 p2 p3 hB.1 m_isWorked m_lines m_product m_place m_ofX m_ofY m_steps m_step m_rows m_cell m_overs m_sure hB.2.1 res (fun v pc ls hz h hd => kr_z C hz h hd) hm ls hl)
theorem wm_X7_tablet_0 : Cond.constantLong RX7 72 (8) ∈ wsX7_tablet := by decide +kernel
theorem wm_X7_tablet_1 : Cond.fieldLink RX7 25 "SixtyTabletModel" "rows" "[I" ∈ wsX7_tablet := by decide +kernel
theorem wm_X7_tablet_2 : Cond.fieldLink RX7 28 "SixtyTabletModel" "cell" "[I" ∈ wsX7_tablet := by decide +kernel
theorem wi_X7_tablet_X7 : ∀ w ∈ wsX70, w ∈ wsX7_tablet := by decide +kernel
theorem kdvX7_tablet : yX7_tablet.cls = RX7 ∧ yX7_tablet.cls ≠ "java/lang/invoke/MethodHandle" ∧ yX7_tablet.cls ≠ "java/lang/invoke/VarHandle" ∧ (parseMethodDescriptor yX7_tablet.desc).map (fun d => d.parameters.length) = some 2 := by decide +kernel
abbrev rmX7_tablet : Room := { frames := 2, cells := 0, slots := 0, locals := 45 }
def mlX7_tablet_33 (x1 : Int32) (kE : (Nat → Int32) → Option (Int32 × (Nat → Int32) × (Nat → Int32))) : Nat → Int32 → (Nat → Int32) → Option (Int32 × (Nat → Int32) × (Nat → Int32))
  | 0, _, _ => none
  | n + 1, x3, m_cell => (if (24 : Int32) ≤ x3 then (kE m_cell) else (if (((24 : Int32) * x1) + x3) < 0 ∨ 96 ≤ (Int32.toNatClampNeg (((24 : Int32) * x1) + x3)) then none else (md_let (upd m_cell (Int32.toNatClampNeg (((24 : Int32) * x1) + x3)) (0 : Int32)) (fun (m_cell_7 : Nat → Int32) => (md_let (x3 + (1 : Int32)) (fun (x3_8 : Int32) => (mlX7_tablet_33 x1 kE n x3_8 m_cell_7)))))))
set_option maxHeartbeats 4000000 in
set_option maxRecDepth 100000 in
theorem lX7_tablet_33 {p : Program} {l : Launch} {e : Env} {s : State} {m : MethodId} {args : Array Value} {below : List Frame} {meth : Method} {c : Code} {Q : State → Prop} (C : kc p s m args meth c cX7_tablet 4 RX7 yX7_tablet.name wsX7_tablet (some .int)) {D : va_G} {cI cT : ClassId} {mo m_product_a m_place_a m_ofX_a m_ofY_a m_step_a m_rows_a m_cell_a m_overs_a m_sure_a : Nat} (hK : va_K D vwCl (kTy cI cT) s) (hnd : ([mo, m_product_a, m_place_a, m_ofX_a, m_ofY_a, m_step_a, m_rows_a, m_cell_a, m_overs_a, m_sure_a] : List Nat).Nodup) (x1 : Int32) (m_isWorked : Int32) (m_lines : Int32) (m_product : Nat → Int32) (m_place : Nat → Int32) (m_ofX : Nat → Int32) (m_ofY : Nat → Int32) (m_steps : Int32) (m_step : Nat → Int32) (m_rows : Nat → Int32) (m_overs : Nat → Int32) (m_sure : Nat → Int32) (res : (Int32 × (Nat → Int32) × (Nat → Int32))) (hQ : ∀ (v : Int32) (m_rows : Nat → Int32) (m_cell : Nat → Int32) (H : Heap) (locs : List Loc) (pc : Nat) (ls : Array Slot), some (v, m_rows, m_cell) = some res → va_P D vwCl [(mo, .inr (4, [.int m_isWorked, .int m_lines, .ref m_product_a, .ref m_place_a, .ref m_ofX_a, .ref m_ofY_a, .int m_steps, .ref m_step_a, .ref m_rows_a, .ref m_cell_a, .ref m_overs_a, .ref m_sure_a])), (m_product_a, .inl (cI, 16, .inl m_product)), (m_place_a, .inl (cI, 16, .inl m_place)), (m_ofX_a, .inl (cI, 16, .inl m_ofX)), (m_ofY_a, .inl (cI, 16, .inl m_ofY)), (m_step_a, .inl (cI, 5, .inl m_step)), (m_rows_a, .inl (cI, 4, .inl m_rows)), (m_cell_a, .inl (cI, 96, .inl m_cell)), (m_overs_a, .inl (cI, 29, .inl m_overs)), (m_sure_a, .inl (cI, 24, .inl m_sure))] H → va_S (fun q => q ∈ ([mo, m_product_a, m_place_a, m_ofX_a, m_ofY_a, m_step_a, m_rows_a, m_cell_a, m_overs_a, m_sure_a] : List Nat)) s.heap H locs → decode cX7_tablet pc = .ok (.ireturn, 1) → W p l e rmX7_tablet s m args below meth c H locs 0 0 Q (F0 m pc ls [.int v])) (kE : (Nat → Int32) → Option (Int32 × (Nat → Int32) × (Nat → Int32))) (hE : ∀ (m_cell : Nat → Int32), kE m_cell = some res → ∀ (H : Heap) (locs : List Loc), va_P D vwCl [(mo, .inr (4, [.int m_isWorked, .int m_lines, .ref m_product_a, .ref m_place_a, .ref m_ofX_a, .ref m_ofY_a, .int m_steps, .ref m_step_a, .ref m_rows_a, .ref m_cell_a, .ref m_overs_a, .ref m_sure_a])), (m_product_a, .inl (cI, 16, .inl m_product)), (m_place_a, .inl (cI, 16, .inl m_place)), (m_ofX_a, .inl (cI, 16, .inl m_ofX)), (m_ofY_a, .inl (cI, 16, .inl m_ofY)), (m_step_a, .inl (cI, 5, .inl m_step)), (m_rows_a, .inl (cI, 4, .inl m_rows)), (m_cell_a, .inl (cI, 96, .inl m_cell)), (m_overs_a, .inl (cI, 29, .inl m_overs)), (m_sure_a, .inl (cI, 24, .inl m_sure))] H → va_S (fun q => q ∈ ([mo, m_product_a, m_place_a, m_ofX_a, m_ofY_a, m_step_a, m_rows_a, m_cell_a, m_overs_a, m_sure_a] : List Nat)) s.heap H locs → ∀ (ls : Array Slot), lv_has ls 4 [] → W p l e rmX7_tablet s m args below meth c H locs 0 0 Q (F0 m 57 ls [])) : ∀ (n : Nat), ∀ (x3 : Int32) (m_cell : Nat → Int32), mlX7_tablet_33 x1 kE n x3 m_cell = some res → ∀ (H : Heap) (locs : List Loc), va_P D vwCl [(mo, .inr (4, [.int m_isWorked, .int m_lines, .ref m_product_a, .ref m_place_a, .ref m_ofX_a, .ref m_ofY_a, .int m_steps, .ref m_step_a, .ref m_rows_a, .ref m_cell_a, .ref m_overs_a, .ref m_sure_a])), (m_product_a, .inl (cI, 16, .inl m_product)), (m_place_a, .inl (cI, 16, .inl m_place)), (m_ofX_a, .inl (cI, 16, .inl m_ofX)), (m_ofY_a, .inl (cI, 16, .inl m_ofY)), (m_step_a, .inl (cI, 5, .inl m_step)), (m_rows_a, .inl (cI, 4, .inl m_rows)), (m_cell_a, .inl (cI, 96, .inl m_cell)), (m_overs_a, .inl (cI, 29, .inl m_overs)), (m_sure_a, .inl (cI, 24, .inl m_sure))] H → va_S (fun q => q ∈ ([mo, m_product_a, m_place_a, m_ofX_a, m_ofY_a, m_step_a, m_rows_a, m_cell_a, m_overs_a, m_sure_a] : List Nat)) s.heap H locs → ∀ (ls : Array Slot), lv_has ls 4 [(0, .ref mo), (1, .int x1), (3, .int x3)] → W p l e rmX7_tablet s m args below meth c H locs 0 0 Q (F0 m 33 ls []) := by
  have C0 := C
  obtain ⟨hx, hb, hml, hown, hts, hr, hlk, hnm⟩ := C0
  intro n
  induction n with
  | zero => intro _ _ h; exact md_x h
  | succ n ih =>
    intro x3 m_cell h H locs hP hS ls hl
    rw [mlX7_tablet_33] at h
    refine lv_iload_n hx hb dX7_tablet_33 rfl (lv_at hl 2 rfl) ?_
    refine lv_bipush (v := 24) hx hb dX7_tablet_34 (by decide) ?_
    refine lv_icmp_ge (tgt := 57) hx hb dX7_tablet_36 (by decide) (fun c6 => ?_) (fun c6 => ?_)
    · replace h := md_t c6 h
      exact hE m_cell h _ _ hP hS ls (lv_sub hl [] rfl)
    replace h := md_f c6 h
    refine lv_aload_n hx hb dX7_tablet_39 rfl (lv_at hl 0 rfl) ?_
    refine va_get (D := D) (ci := 4) (v := .ref m_cell_a) (C := RX7) (T := TX7) (N := 12) hx hb hts wi_X7_tablet_X7 hown hK hP 0 rfl rfl 9 (by decide) (hts _ wm_X7_tablet_2) (fun _ h9 => h9) rfl dX7_tablet_40 ?_
    refine lv_bipush (v := 24) hx hb dX7_tablet_43 (by decide) ?_
    refine lv_iload_n hx hb dX7_tablet_45 rfl (lv_at hl 1 rfl) ?_
    refine lv_imul hx hb dX7_tablet_46 ?_
    refine lv_iload_n hx hb dX7_tablet_47 rfl (lv_at hl 2 rfl) ?_
    refine lv_iadd hx hb dX7_tablet_48 ?_
    refine lv_iconst (v := 0) hx hb dX7_tablet_49 (by decide) ?_
    obtain ⟨hin7, h⟩ := md_g h
    refine va_iast hx hb hK hP (kD hnd rfl) hS 7 0 rfl rfl hin7 dX7_tablet_50 (fun H locs hP _ hS => ?_)
    have hP : va_P D vwCl [(mo, .inr (4, [.int m_isWorked, .int m_lines, .ref m_product_a, .ref m_place_a, .ref m_ofX_a, .ref m_ofY_a, .int m_steps, .ref m_step_a, .ref m_rows_a, .ref m_cell_a, .ref m_overs_a, .ref m_sure_a])), (m_product_a, .inl (cI, 16, .inl m_product)), (m_place_a, .inl (cI, 16, .inl m_place)), (m_ofX_a, .inl (cI, 16, .inl m_ofX)), (m_ofY_a, .inl (cI, 16, .inl m_ofY)), (m_step_a, .inl (cI, 5, .inl m_step)), (m_rows_a, .inl (cI, 4, .inl m_rows)), (m_cell_a, .inl (cI, 96, .inl (upd m_cell (Int32.toNatClampNeg (((24 : Int32) * x1) + x3)) (0 : Int32)))), (m_overs_a, .inl (cI, 29, .inl m_overs)), (m_sure_a, .inl (cI, 24, .inl m_sure))] H := hP
    obtain ⟨m_cell_7, em_cell_7⟩ : ∃ y : Nat → Int32, y = (upd m_cell (Int32.toNatClampNeg (((24 : Int32) * x1) + x3)) (0 : Int32)) := ⟨_, rfl⟩
    replace h := md_le em_cell_7 h
    rw [← em_cell_7] at hP
    obtain ⟨x3_8, ex3_8⟩ : ∃ y : Int32, y = (x3 + (1 : Int32)) := ⟨_, rfl⟩
    replace h := md_le ex3_8 h
    refine lv_iinc (v := x3_8) (lv' := [(3, .int x3_8), (0, .ref mo), (1, .int x1)]) hx hb dX7_tablet_51 hl (k := 2) rfl (by rw [ex3_8]; rfl) (by decide) rfl (fun ls hl => ?_)
    refine lv_goto (tgt := 33) hx hb dX7_tablet_54 (by decide) ?_
    exact ih x3_8 m_cell_7 h _ _ hP hS ls (lv_sub hl [1, 2, 0] rfl)
def mX7_tablet (m_rows : Nat → Int32) (m_cell : Nat → Int32) (p1 : Int32) (p2 : Int32) : Option (Int32 × (Nat → Int32) × (Nat → Int32)) := (Option.bind (mX7_isTablet p1) (fun u1 => (if u1 = 0 then (some ((-1 : Int32), m_rows, m_cell)) else (Option.bind (mX7_in (Int32.toInt64 p2) (1 : Int64) (8 : Int64)) (fun u3 => (if u3 = 0 then (some ((-2 : Int32), m_rows, m_cell)) else (if p1 < 0 ∨ 4 ≤ (Int32.toNatClampNeg p1) then none else (md_let (upd m_rows (Int32.toNatClampNeg p1) p2) (fun (m_rows_5 : Nat → Int32) => (mlX7_tablet_33 p1 (fun (m_cell_57 : Nat → Int32) => (some ((1 : Int32), m_rows_5, m_cell_57))) kN (0 : Int32) m_cell))))))))))
set_option maxHeartbeats 4000000 in
set_option maxRecDepth 100000 in
theorem bX7_tablet {p : Program} {l : Launch} {e : Env} {s : State} {m : MethodId} {args : Array Value} {below : List Frame} {meth : Method} {c : Code} {Q : State → Prop} (C : kc p s m args meth c cX7_tablet 4 RX7 yX7_tablet.name wsX7_tablet (some .int)) {D : va_G} {cI cT : ClassId} {mo m_product_a m_place_a m_ofX_a m_ofY_a m_step_a m_rows_a m_cell_a m_overs_a m_sure_a : Nat} (p1 : Int32) (p2 : Int32) (hK : va_K D vwCl (kTy cI cT) s) (hnd : ([mo, m_product_a, m_place_a, m_ofX_a, m_ofY_a, m_step_a, m_rows_a, m_cell_a, m_overs_a, m_sure_a] : List Nat).Nodup) (m_isWorked : Int32) (m_lines : Int32) (m_product : Nat → Int32) (m_place : Nat → Int32) (m_ofX : Nat → Int32) (m_ofY : Nat → Int32) (m_steps : Int32) (m_step : Nat → Int32) (m_rows : Nat → Int32) (m_cell : Nat → Int32) (m_overs : Nat → Int32) (m_sure : Nat → Int32) (res : (Int32 × (Nat → Int32) × (Nat → Int32))) (hQ : ∀ (v : Int32) (m_rows : Nat → Int32) (m_cell : Nat → Int32) (H : Heap) (locs : List Loc) (pc : Nat) (ls : Array Slot), some (v, m_rows, m_cell) = some res → va_P D vwCl [(mo, .inr (4, [.int m_isWorked, .int m_lines, .ref m_product_a, .ref m_place_a, .ref m_ofX_a, .ref m_ofY_a, .int m_steps, .ref m_step_a, .ref m_rows_a, .ref m_cell_a, .ref m_overs_a, .ref m_sure_a])), (m_product_a, .inl (cI, 16, .inl m_product)), (m_place_a, .inl (cI, 16, .inl m_place)), (m_ofX_a, .inl (cI, 16, .inl m_ofX)), (m_ofY_a, .inl (cI, 16, .inl m_ofY)), (m_step_a, .inl (cI, 5, .inl m_step)), (m_rows_a, .inl (cI, 4, .inl m_rows)), (m_cell_a, .inl (cI, 96, .inl m_cell)), (m_overs_a, .inl (cI, 29, .inl m_overs)), (m_sure_a, .inl (cI, 24, .inl m_sure))] H → va_S (fun q => q ∈ ([mo, m_product_a, m_place_a, m_ofX_a, m_ofY_a, m_step_a, m_rows_a, m_cell_a, m_overs_a, m_sure_a] : List Nat)) s.heap H locs → decode cX7_tablet pc = .ok (.ireturn, 1) → W p l e rmX7_tablet s m args below meth c H locs 0 0 Q (F0 m pc ls [.int v])) : mX7_tablet m_rows m_cell p1 p2 = some res → ∀ (H : Heap) (locs : List Loc), va_P D vwCl [(mo, .inr (4, [.int m_isWorked, .int m_lines, .ref m_product_a, .ref m_place_a, .ref m_ofX_a, .ref m_ofY_a, .int m_steps, .ref m_step_a, .ref m_rows_a, .ref m_cell_a, .ref m_overs_a, .ref m_sure_a])), (m_product_a, .inl (cI, 16, .inl m_product)), (m_place_a, .inl (cI, 16, .inl m_place)), (m_ofX_a, .inl (cI, 16, .inl m_ofX)), (m_ofY_a, .inl (cI, 16, .inl m_ofY)), (m_step_a, .inl (cI, 5, .inl m_step)), (m_rows_a, .inl (cI, 4, .inl m_rows)), (m_cell_a, .inl (cI, 96, .inl m_cell)), (m_overs_a, .inl (cI, 29, .inl m_overs)), (m_sure_a, .inl (cI, 24, .inl m_sure))] H → va_S (fun q => q ∈ ([mo, m_product_a, m_place_a, m_ofX_a, m_ofY_a, m_step_a, m_rows_a, m_cell_a, m_overs_a, m_sure_a] : List Nat)) s.heap H locs → ∀ (ls : Array Slot), lv_has ls 4 [(0, .ref mo), (1, .int p1), (2, .int p2)] → W p l e rmX7_tablet s m args below meth c H locs 0 0 Q (F0 m 0 ls []) := by
  intro h H locs hP hS ls hl
  have C0 := C
  obtain ⟨hx, hb, hml, hown, hts, hr, hlk, hnm⟩ := C0
  rw [mX7_tablet] at h
  refine lv_iload_n hx hb dX7_tablet_0 rfl (lv_at hl 1 rfl) ?_
  obtain ⟨u1, hu1, h⟩ := md_b h
  refine kS C (ctX7_isTablet l  hu1) gX7_tablet_X7_isTablet rfl kdX7_isTablet ⟨rfl, rfl⟩ ⟨by decide, by decide⟩ kT_blind (fun _ _ _ => trivial) rfl hl [] rfl (Nat.le_of_ble_eq_true rfl) dX7_tablet_1 ⟨by decide, by decide⟩ ?_
  refine lv_if_ne (tgt := 9) hx hb dX7_tablet_4 (by decide) (fun c2 => ?_) (fun c2 => ?_)
  · replace h := md_f c2 h
    refine lv_iload_n hx hb dX7_tablet_9 rfl (lv_at hl 2 rfl) ?_
    refine lv_i2l hx hb dX7_tablet_10 rfl ?_
    refine lv_lconst (v := 1) hx hb dX7_tablet_11 (by decide) ?_
    refine lv_ldc2 hx hb hown (hts _ wm_X7_tablet_0) dX7_tablet_12 ?_
    obtain ⟨u3, hu3, h⟩ := md_b h
    refine kS C (ctX7_in l  hu3) gX7_tablet_X7_in rfl kdX7_in ⟨rfl, rfl⟩ ⟨by decide, by decide⟩ kT_blind (fun _ _ _ => trivial) rfl hl [] rfl (Nat.le_of_ble_eq_true rfl) dX7_tablet_15 ⟨by decide, by decide⟩ ?_
    refine lv_if_ne (tgt := 24) hx hb dX7_tablet_18 (by decide) (fun c4 => ?_) (fun c4 => ?_)
    · replace h := md_f c4 h
      refine lv_aload_n hx hb dX7_tablet_24 rfl (lv_at hl 0 rfl) ?_
      refine va_get (D := D) (ci := 4) (v := .ref m_rows_a) (C := RX7) (T := TX7) (N := 12) hx hb hts wi_X7_tablet_X7 hown hK hP 0 rfl rfl 8 (by decide) (hts _ wm_X7_tablet_1) (fun _ h9 => h9) rfl dX7_tablet_25 ?_
      refine lv_iload_n hx hb dX7_tablet_28 rfl (lv_at hl 1 rfl) ?_
      refine lv_iload_n hx hb dX7_tablet_29 rfl (lv_at hl 2 rfl) ?_
      obtain ⟨hin5, h⟩ := md_g h
      refine va_iast hx hb hK hP (kD hnd rfl) hS 6 0 rfl rfl hin5 dX7_tablet_30 (fun H locs hP _ hS => ?_)
      have hP : va_P D vwCl [(mo, .inr (4, [.int m_isWorked, .int m_lines, .ref m_product_a, .ref m_place_a, .ref m_ofX_a, .ref m_ofY_a, .int m_steps, .ref m_step_a, .ref m_rows_a, .ref m_cell_a, .ref m_overs_a, .ref m_sure_a])), (m_product_a, .inl (cI, 16, .inl m_product)), (m_place_a, .inl (cI, 16, .inl m_place)), (m_ofX_a, .inl (cI, 16, .inl m_ofX)), (m_ofY_a, .inl (cI, 16, .inl m_ofY)), (m_step_a, .inl (cI, 5, .inl m_step)), (m_rows_a, .inl (cI, 4, .inl (upd m_rows (Int32.toNatClampNeg p1) p2))), (m_cell_a, .inl (cI, 96, .inl m_cell)), (m_overs_a, .inl (cI, 29, .inl m_overs)), (m_sure_a, .inl (cI, 24, .inl m_sure))] H := hP
      obtain ⟨m_rows_5, em_rows_5⟩ : ∃ y : Nat → Int32, y = (upd m_rows (Int32.toNatClampNeg p1) p2) := ⟨_, rfl⟩
      replace h := md_le em_rows_5 h
      rw [← em_rows_5] at hP
      refine lv_iconst (v := 0) hx hb dX7_tablet_31 (by decide) ?_
      refine lv_istore_n (lv' := [(3, .int (0 : Int32)), (0, .ref mo), (1, .int p1), (2, .int p2)]) hx hb dX7_tablet_32 rfl hl (by decide) rfl (fun ls hl => ?_)
      refine lX7_tablet_33 (mo := mo) (m_product_a := m_product_a) (m_place_a := m_place_a) (m_ofX_a := m_ofX_a) (m_ofY_a := m_ofY_a) (m_step_a := m_step_a) (m_rows_a := m_rows_a) (m_cell_a := m_cell_a) (m_overs_a := m_overs_a) (m_sure_a := m_sure_a) C hK hnd p1 m_isWorked m_lines m_product m_place m_ofX m_ofY m_steps m_step m_rows_5 m_overs m_sure res hQ _ (fun m_cell_57 h H locs hP hS ls hl => ?_) kN (0 : Int32) m_cell h _ _ hP hS ls (lv_sub hl [1, 2, 0] rfl)
      refine lv_iconst (v := 1) hx hb dX7_tablet_57 (by decide) ?_
      exact hQ (1 : Int32) m_rows_5 m_cell_57 H locs 58 ls h hP hS dX7_tablet_58
    replace h := md_t c4 h
    refine lv_bipush (v := -2) hx hb dX7_tablet_21 (by decide) ?_
    exact hQ (-2 : Int32) m_rows m_cell H locs 23 ls h hP hS dX7_tablet_23
  replace h := md_t c2 h
  refine lv_iconst (v := -1) hx hb dX7_tablet_7 (by decide) ?_
  exact hQ (-1 : Int32) m_rows m_cell H locs 8 ls h hP hS dX7_tablet_8
set_option maxHeartbeats 4000000 in
theorem ctX7_tablet (l : Launch) {D : va_G} {cI cT : ClassId} {mo m_product_a m_place_a m_ofX_a m_ofY_a m_step_a m_rows_a m_cell_a m_overs_a m_sure_a : Nat} {m_isWorked : Int32} {m_lines : Int32} {m_product : Nat → Int32} {m_place : Nat → Int32} {m_ofX : Nat → Int32} {m_ofY : Nat → Int32} {m_steps : Int32} {m_step : Nat → Int32} {m_rows : Nat → Int32} {m_cell : Nat → Int32} {m_overs : Nat → Int32} {m_sure : Nat → Int32} {p1 : Int32} {p2 : Int32} {res : (Int32 × (Nat → Int32) × (Nat → Int32))} (hnd : ([mo, m_product_a, m_place_a, m_ofX_a, m_ofY_a, m_step_a, m_rows_a, m_cell_a, m_overs_a, m_sure_a] : List Nat).Nodup) (hm : mX7_tablet m_rows m_cell p1 p2 = some res) : Met l yX7_tablet wsX7_tablet rmX7_tablet (va_Pc [.ref mo, .int p1, .int p2] (kW D cI cT [(mo, .inr (4, [.int m_isWorked, .int m_lines, .ref m_product_a, .ref m_place_a, .ref m_ofX_a, .ref m_ofY_a, .int m_steps, .ref m_step_a, .ref m_rows_a, .ref m_cell_a, .ref m_overs_a, .ref m_sure_a])), (m_product_a, .inl (cI, 16, .inl m_product)), (m_place_a, .inl (cI, 16, .inl m_place)), (m_ofX_a, .inl (cI, 16, .inl m_ofX)), (m_ofY_a, .inl (cI, 16, .inl m_ofY)), (m_step_a, .inl (cI, 5, .inl m_step)), (m_rows_a, .inl (cI, 4, .inl m_rows)), (m_cell_a, .inl (cI, 96, .inl m_cell)), (m_overs_a, .inl (cI, 29, .inl m_overs)), (m_sure_a, .inl (cI, 24, .inl m_sure))] none (fun q => q ∈ ([mo, m_product_a, m_place_a, m_ofX_a, m_ofY_a, m_step_a, m_rows_a, m_cell_a, m_overs_a, m_sure_a] : List Nat)))) (kX (some (.int res.1)) D [(mo, .inr (4, [.int m_isWorked, .int m_lines, .ref m_product_a, .ref m_place_a, .ref m_ofX_a, .ref m_ofY_a, .int m_steps, .ref m_step_a, .ref m_rows_a, .ref m_cell_a, .ref m_overs_a, .ref m_sure_a])), (m_product_a, .inl (cI, 16, .inl m_product)), (m_place_a, .inl (cI, 16, .inl m_place)), (m_ofX_a, .inl (cI, 16, .inl m_ofX)), (m_ofY_a, .inl (cI, 16, .inl m_ofY)), (m_step_a, .inl (cI, 5, .inl m_step)), (m_rows_a, .inl (cI, 4, .inl res.2.1)), (m_cell_a, .inl (cI, 96, .inl res.2.2)), (m_overs_a, .inl (cI, 29, .inl m_overs)), (m_sure_a, .inl (cI, 24, .inl m_sure))] (fun q => q ∈ ([mo, m_product_a, m_place_a, m_ofX_a, m_ofY_a, m_step_a, m_rows_a, m_cell_a, m_overs_a, m_sure_a] : List Nat))) 0 0 (fun q => q ∈ ([mo, m_product_a, m_place_a, m_ofX_a, m_ofY_a, m_step_a, m_rows_a, m_cell_a, m_overs_a, m_sure_a] : List Nat)) :=
  km (by decide) rfl (Nat.le_of_ble_eq_true rfl) (fun p e s m below meth c ls C hB hl => bX7_tablet C p1 p2 hB.1 hnd m_isWorked m_lines m_product m_place m_ofX m_ofY m_steps m_step m_rows m_cell m_overs m_sure res (fun v m_rows1 m_cell1 H locs pc ls h hP hS hd => by obtain rfl := Option.some.inj h; exact kx_i C hP hS hd) hm s.heap [] hB.2.1 va_S.rf ls hl)
theorem wm_X7_press_0 : Cond.constantLong RX7 117 (12959999) ∈ wsX7_press := by decide +kernel
theorem wm_X7_press_1 : Cond.fieldLink RX7 28 "SixtyTabletModel" "cell" "[I" ∈ wsX7_press := by decide +kernel
theorem wi_X7_press_X7 : ∀ w ∈ wsX70, w ∈ wsX7_press := by decide +kernel
theorem kdvX7_press : yX7_press.cls = RX7 ∧ yX7_press.cls ≠ "java/lang/invoke/MethodHandle" ∧ yX7_press.cls ≠ "java/lang/invoke/VarHandle" ∧ (parseMethodDescriptor yX7_press.desc).map (fun d => d.parameters.length) = some 4 := by decide +kernel
abbrev rmX7_press : Room := { frames := 4, cells := 0, slots := 0, locals := 90 }
def mX7_press (m_rows : Nat → Int32) (m_cell : Nat → Int32) (p1 : Int32) (p2 : Int32) (p3 : Int32) (p4 : Int32) : Option (Int32 × (Nat → Int32)) := (Option.bind (mX7_isCell m_rows p1 p2 p3) (fun u1 => (if u1 = 0 then (some ((-1 : Int32), m_cell)) else (Option.bind (mX7_in (Int32.toInt64 p4) (0 : Int64) (12959999 : Int64)) (fun u3 => (if u3 = 0 then (some ((-2 : Int32), m_cell)) else (Option.bind (mX7_at p1 p2 p3) (fun u5 => (if u5 < 0 ∨ 96 ≤ (Int32.toNatClampNeg u5) then none else (md_let (m_cell (Int32.toNatClampNeg u5)) (fun (x5_7 : Int32) => (Option.bind (mX7_at p1 p2 p3) (fun u8 => (if u8 < 0 ∨ 96 ≤ (Int32.toNatClampNeg u8) then none else (md_let (upd m_cell (Int32.toNatClampNeg u8) p4) (fun (m_cell_9 : Nat → Int32) => (some (x5_7, m_cell_9))))))))))))))))))
set_option maxHeartbeats 4000000 in
set_option maxRecDepth 100000 in
theorem bX7_press {p : Program} {l : Launch} {e : Env} {s : State} {m : MethodId} {args : Array Value} {below : List Frame} {meth : Method} {c : Code} {Q : State → Prop} (C : kc p s m args meth c cX7_press 6 RX7 yX7_press.name wsX7_press (some .int)) {D : va_G} {cI cT : ClassId} {mo m_product_a m_place_a m_ofX_a m_ofY_a m_step_a m_rows_a m_cell_a m_overs_a m_sure_a : Nat} (p1 : Int32) (p2 : Int32) (p3 : Int32) (p4 : Int32) (hK : va_K D vwCl (kTy cI cT) s) (hnd : ([mo, m_product_a, m_place_a, m_ofX_a, m_ofY_a, m_step_a, m_rows_a, m_cell_a, m_overs_a, m_sure_a] : List Nat).Nodup) (m_isWorked : Int32) (m_lines : Int32) (m_product : Nat → Int32) (m_place : Nat → Int32) (m_ofX : Nat → Int32) (m_ofY : Nat → Int32) (m_steps : Int32) (m_step : Nat → Int32) (m_rows : Nat → Int32) (m_cell : Nat → Int32) (m_overs : Nat → Int32) (m_sure : Nat → Int32) (res : (Int32 × (Nat → Int32))) (hQ : ∀ (v : Int32) (m_cell : Nat → Int32) (H : Heap) (locs : List Loc) (pc : Nat) (ls : Array Slot), some (v, m_cell) = some res → va_P D vwCl [(mo, .inr (4, [.int m_isWorked, .int m_lines, .ref m_product_a, .ref m_place_a, .ref m_ofX_a, .ref m_ofY_a, .int m_steps, .ref m_step_a, .ref m_rows_a, .ref m_cell_a, .ref m_overs_a, .ref m_sure_a])), (m_product_a, .inl (cI, 16, .inl m_product)), (m_place_a, .inl (cI, 16, .inl m_place)), (m_ofX_a, .inl (cI, 16, .inl m_ofX)), (m_ofY_a, .inl (cI, 16, .inl m_ofY)), (m_step_a, .inl (cI, 5, .inl m_step)), (m_rows_a, .inl (cI, 4, .inl m_rows)), (m_cell_a, .inl (cI, 96, .inl m_cell)), (m_overs_a, .inl (cI, 29, .inl m_overs)), (m_sure_a, .inl (cI, 24, .inl m_sure))] H → va_S (fun q => q ∈ ([mo, m_product_a, m_place_a, m_ofX_a, m_ofY_a, m_step_a, m_rows_a, m_cell_a, m_overs_a, m_sure_a] : List Nat)) s.heap H locs → decode cX7_press pc = .ok (.ireturn, 1) → W p l e rmX7_press s m args below meth c H locs 0 0 Q (F0 m pc ls [.int v])) : mX7_press m_rows m_cell p1 p2 p3 p4 = some res → ∀ (H : Heap) (locs : List Loc), va_P D vwCl [(mo, .inr (4, [.int m_isWorked, .int m_lines, .ref m_product_a, .ref m_place_a, .ref m_ofX_a, .ref m_ofY_a, .int m_steps, .ref m_step_a, .ref m_rows_a, .ref m_cell_a, .ref m_overs_a, .ref m_sure_a])), (m_product_a, .inl (cI, 16, .inl m_product)), (m_place_a, .inl (cI, 16, .inl m_place)), (m_ofX_a, .inl (cI, 16, .inl m_ofX)), (m_ofY_a, .inl (cI, 16, .inl m_ofY)), (m_step_a, .inl (cI, 5, .inl m_step)), (m_rows_a, .inl (cI, 4, .inl m_rows)), (m_cell_a, .inl (cI, 96, .inl m_cell)), (m_overs_a, .inl (cI, 29, .inl m_overs)), (m_sure_a, .inl (cI, 24, .inl m_sure))] H → va_S (fun q => q ∈ ([mo, m_product_a, m_place_a, m_ofX_a, m_ofY_a, m_step_a, m_rows_a, m_cell_a, m_overs_a, m_sure_a] : List Nat)) s.heap H locs → ∀ (ls : Array Slot), lv_has ls 6 [(0, .ref mo), (1, .int p1), (2, .int p2), (3, .int p3), (4, .int p4)] → W p l e rmX7_press s m args below meth c H locs 0 0 Q (F0 m 0 ls []) := by
  intro h H locs hP hS ls hl
  have C0 := C
  obtain ⟨hx, hb, hml, hown, hts, hr, hlk, hnm⟩ := C0
  rw [mX7_press] at h
  refine lv_aload_n hx hb dX7_press_0 rfl (lv_at hl 0 rfl) ?_
  refine lv_iload_n hx hb dX7_press_1 rfl (lv_at hl 1 rfl) ?_
  refine lv_iload_n hx hb dX7_press_2 rfl (lv_at hl 2 rfl) ?_
  refine lv_iload_n hx hb dX7_press_3 rfl (lv_at hl 3 rfl) ?_
  obtain ⟨u1, hu1, h⟩ := md_b h
  refine kV C (ctX7_isCell l  hu1) gX7_press_X7_isCell rfl kdvX7_isCell ⟨rfl, rfl⟩ ⟨by decide, by decide⟩ kW_blind (va_recv hK hP (ci := 4) (q0 := 0) rfl rfl) (kW_use hK (hP.sub (ws' := [(mo, .inr (4, [.int m_isWorked, .int m_lines, .ref m_product_a, .ref m_place_a, .ref m_ofX_a, .ref m_ofY_a, .int m_steps, .ref m_step_a, .ref m_rows_a, .ref m_cell_a, .ref m_overs_a, .ref m_sure_a])), (m_product_a, .inl (cI, 16, .inl m_product)), (m_place_a, .inl (cI, 16, .inl m_place)), (m_ofX_a, .inl (cI, 16, .inl m_ofX)), (m_ofY_a, .inl (cI, 16, .inl m_ofY)), (m_step_a, .inl (cI, 5, .inl m_step)), (m_rows_a, .inl (cI, 4, .inl m_rows)), (m_cell_a, .inl (cI, 96, .inl m_cell)), (m_overs_a, .inl (cI, 29, .inl m_overs)), (m_sure_a, .inl (cI, 24, .inl m_sure))]) [0, 1, 2, 3, 4, 5, 6, 7, 8, 9] rfl) kL_no) rfl hl [] rfl (Nat.le_of_ble_eq_true rfl) dX7_press_4 ⟨by decide, by decide⟩ ?_
  refine lv_if_ne (tgt := 12) hx hb dX7_press_7 (by decide) (fun c2 => ?_) (fun c2 => ?_)
  · replace h := md_f c2 h
    refine lv_iload hx hb dX7_press_12 (lv_at hl 4 rfl) ?_
    refine lv_i2l hx hb dX7_press_14 rfl ?_
    refine lv_lconst (v := 0) hx hb dX7_press_15 (by decide) ?_
    refine lv_ldc2 hx hb hown (hts _ wm_X7_press_0) dX7_press_16 ?_
    obtain ⟨u3, hu3, h⟩ := md_b h
    refine kS C (ctX7_in l  hu3) gX7_press_X7_in rfl kdX7_in ⟨rfl, rfl⟩ ⟨by decide, by decide⟩ kT_blind (fun _ _ _ => trivial) rfl hl [] rfl (Nat.le_of_ble_eq_true rfl) dX7_press_19 ⟨by decide, by decide⟩ ?_
    refine lv_if_ne (tgt := 28) hx hb dX7_press_22 (by decide) (fun c4 => ?_) (fun c4 => ?_)
    · replace h := md_f c4 h
      refine lv_aload_n hx hb dX7_press_28 rfl (lv_at hl 0 rfl) ?_
      refine va_get (D := D) (ci := 4) (v := .ref m_cell_a) (C := RX7) (T := TX7) (N := 12) hx hb hts wi_X7_press_X7 hown hK hP 0 rfl rfl 9 (by decide) (hts _ wm_X7_press_1) (fun _ h9 => h9) rfl dX7_press_29 ?_
      refine lv_iload_n hx hb dX7_press_32 rfl (lv_at hl 1 rfl) ?_
      refine lv_iload_n hx hb dX7_press_33 rfl (lv_at hl 2 rfl) ?_
      refine lv_iload_n hx hb dX7_press_34 rfl (lv_at hl 3 rfl) ?_
      obtain ⟨u5, hu5, h⟩ := md_b h
      refine kS C (ctX7_at l  hu5) gX7_press_X7_at rfl kdX7_at ⟨rfl, rfl⟩ ⟨by decide, by decide⟩ kT_blind (fun _ _ _ => trivial) rfl hl [.ref m_cell_a] rfl (Nat.le_of_ble_eq_true rfl) dX7_press_35 ⟨by decide, by decide⟩ ?_
      obtain ⟨hin6, h⟩ := md_g h
      refine va_iald hx hb hK hP 7 0 rfl rfl hin6 dX7_press_38 ?_
      refine lv_topi (fun x5_7 ex5_7 => ?_)
      replace h := md_le ex5_7 h
      refine lv_istore (lv' := [(5, .int x5_7), (0, .ref mo), (1, .int p1), (2, .int p2), (3, .int p3), (4, .int p4)]) hx hb dX7_press_39 hl (by decide) rfl (fun ls hl => ?_)
      refine lv_aload_n hx hb dX7_press_41 rfl (lv_at hl 1 rfl) ?_
      refine va_get (D := D) (ci := 4) (v := .ref m_cell_a) (C := RX7) (T := TX7) (N := 12) hx hb hts wi_X7_press_X7 hown hK hP 0 rfl rfl 9 (by decide) (hts _ wm_X7_press_1) (fun _ h9 => h9) rfl dX7_press_42 ?_
      refine lv_iload_n hx hb dX7_press_45 rfl (lv_at hl 2 rfl) ?_
      refine lv_iload_n hx hb dX7_press_46 rfl (lv_at hl 3 rfl) ?_
      refine lv_iload_n hx hb dX7_press_47 rfl (lv_at hl 4 rfl) ?_
      obtain ⟨u8, hu8, h⟩ := md_b h
      refine kS C (ctX7_at l  hu8) gX7_press_X7_at rfl kdX7_at ⟨rfl, rfl⟩ ⟨by decide, by decide⟩ kT_blind (fun _ _ _ => trivial) rfl hl [.ref m_cell_a] rfl (Nat.le_of_ble_eq_true rfl) dX7_press_48 ⟨by decide, by decide⟩ ?_
      refine lv_iload hx hb dX7_press_51 (lv_at hl 5 rfl) ?_
      obtain ⟨hin9, h⟩ := md_g h
      refine va_iast hx hb hK hP (kD hnd rfl) hS 7 0 rfl rfl hin9 dX7_press_53 (fun H locs hP _ hS => ?_)
      have hP : va_P D vwCl [(mo, .inr (4, [.int m_isWorked, .int m_lines, .ref m_product_a, .ref m_place_a, .ref m_ofX_a, .ref m_ofY_a, .int m_steps, .ref m_step_a, .ref m_rows_a, .ref m_cell_a, .ref m_overs_a, .ref m_sure_a])), (m_product_a, .inl (cI, 16, .inl m_product)), (m_place_a, .inl (cI, 16, .inl m_place)), (m_ofX_a, .inl (cI, 16, .inl m_ofX)), (m_ofY_a, .inl (cI, 16, .inl m_ofY)), (m_step_a, .inl (cI, 5, .inl m_step)), (m_rows_a, .inl (cI, 4, .inl m_rows)), (m_cell_a, .inl (cI, 96, .inl (upd m_cell (Int32.toNatClampNeg u8) p4))), (m_overs_a, .inl (cI, 29, .inl m_overs)), (m_sure_a, .inl (cI, 24, .inl m_sure))] H := hP
      obtain ⟨m_cell_9, em_cell_9⟩ : ∃ y : Nat → Int32, y = (upd m_cell (Int32.toNatClampNeg u8) p4) := ⟨_, rfl⟩
      replace h := md_le em_cell_9 h
      rw [← em_cell_9] at hP
      refine lv_iload hx hb dX7_press_54 (lv_at hl 0 rfl) ?_
      exact hQ x5_7 m_cell_9 H locs 56 ls h hP hS dX7_press_56
    replace h := md_t c4 h
    refine lv_bipush (v := -2) hx hb dX7_press_25 (by decide) ?_
    exact hQ (-2 : Int32) m_cell H locs 27 ls h hP hS dX7_press_27
  replace h := md_t c2 h
  refine lv_iconst (v := -1) hx hb dX7_press_10 (by decide) ?_
  exact hQ (-1 : Int32) m_cell H locs 11 ls h hP hS dX7_press_11
set_option maxHeartbeats 4000000 in
theorem ctX7_press (l : Launch) {D : va_G} {cI cT : ClassId} {mo m_product_a m_place_a m_ofX_a m_ofY_a m_step_a m_rows_a m_cell_a m_overs_a m_sure_a : Nat} {m_isWorked : Int32} {m_lines : Int32} {m_product : Nat → Int32} {m_place : Nat → Int32} {m_ofX : Nat → Int32} {m_ofY : Nat → Int32} {m_steps : Int32} {m_step : Nat → Int32} {m_rows : Nat → Int32} {m_cell : Nat → Int32} {m_overs : Nat → Int32} {m_sure : Nat → Int32} {p1 : Int32} {p2 : Int32} {p3 : Int32} {p4 : Int32} {res : (Int32 × (Nat → Int32))} (hnd : ([mo, m_product_a, m_place_a, m_ofX_a, m_ofY_a, m_step_a, m_rows_a, m_cell_a, m_overs_a, m_sure_a] : List Nat).Nodup) (hm : mX7_press m_rows m_cell p1 p2 p3 p4 = some res) : Met l yX7_press wsX7_press rmX7_press (va_Pc [.ref mo, .int p1, .int p2, .int p3, .int p4] (kW D cI cT [(mo, .inr (4, [.int m_isWorked, .int m_lines, .ref m_product_a, .ref m_place_a, .ref m_ofX_a, .ref m_ofY_a, .int m_steps, .ref m_step_a, .ref m_rows_a, .ref m_cell_a, .ref m_overs_a, .ref m_sure_a])), (m_product_a, .inl (cI, 16, .inl m_product)), (m_place_a, .inl (cI, 16, .inl m_place)), (m_ofX_a, .inl (cI, 16, .inl m_ofX)), (m_ofY_a, .inl (cI, 16, .inl m_ofY)), (m_step_a, .inl (cI, 5, .inl m_step)), (m_rows_a, .inl (cI, 4, .inl m_rows)), (m_cell_a, .inl (cI, 96, .inl m_cell)), (m_overs_a, .inl (cI, 29, .inl m_overs)), (m_sure_a, .inl (cI, 24, .inl m_sure))] none (fun q => q ∈ ([mo, m_product_a, m_place_a, m_ofX_a, m_ofY_a, m_step_a, m_rows_a, m_cell_a, m_overs_a, m_sure_a] : List Nat)))) (kX (some (.int res.1)) D [(mo, .inr (4, [.int m_isWorked, .int m_lines, .ref m_product_a, .ref m_place_a, .ref m_ofX_a, .ref m_ofY_a, .int m_steps, .ref m_step_a, .ref m_rows_a, .ref m_cell_a, .ref m_overs_a, .ref m_sure_a])), (m_product_a, .inl (cI, 16, .inl m_product)), (m_place_a, .inl (cI, 16, .inl m_place)), (m_ofX_a, .inl (cI, 16, .inl m_ofX)), (m_ofY_a, .inl (cI, 16, .inl m_ofY)), (m_step_a, .inl (cI, 5, .inl m_step)), (m_rows_a, .inl (cI, 4, .inl m_rows)), (m_cell_a, .inl (cI, 96, .inl res.2)), (m_overs_a, .inl (cI, 29, .inl m_overs)), (m_sure_a, .inl (cI, 24, .inl m_sure))] (fun q => q ∈ ([mo, m_product_a, m_place_a, m_ofX_a, m_ofY_a, m_step_a, m_rows_a, m_cell_a, m_overs_a, m_sure_a] : List Nat))) 0 0 (fun q => q ∈ ([mo, m_product_a, m_place_a, m_ofX_a, m_ofY_a, m_step_a, m_rows_a, m_cell_a, m_overs_a, m_sure_a] : List Nat)) :=
  km (by decide) rfl (Nat.le_of_ble_eq_true rfl) (fun p e s m below meth c ls C hB hl => bX7_press C p1 p2 p3 p4 hB.1 hnd m_isWorked m_lines m_product m_place m_ofX m_ofY m_steps m_step m_rows m_cell m_overs m_sure res (fun v m_cell1 H locs pc ls h hP hS hd => by obtain rfl := Option.some.inj h; exact kx_i C hP hS hd) hm s.heap [] hB.2.1 va_S.rf ls hl)
theorem wm_X7_cell_0 : Cond.fieldLink RX7 28 "SixtyTabletModel" "cell" "[I" ∈ wsX7_cell := by decide +kernel
theorem wi_X7_cell_X7 : ∀ w ∈ wsX70, w ∈ wsX7_cell := by decide +kernel
theorem kdvX7_cell : yX7_cell.cls = RX7 ∧ yX7_cell.cls ≠ "java/lang/invoke/MethodHandle" ∧ yX7_cell.cls ≠ "java/lang/invoke/VarHandle" ∧ (parseMethodDescriptor yX7_cell.desc).map (fun d => d.parameters.length) = some 3 := by decide +kernel
abbrev rmX7_cell : Room := { frames := 4, cells := 0, slots := 0, locals := 90 }
def mX7_cell (m_rows : Nat → Int32) (m_cell : Nat → Int32) (p1 : Int32) (p2 : Int32) (p3 : Int32) : Option Int32 := (Option.bind (mX7_isCell m_rows p1 p2 p3) (fun u1 => (if u1 = 0 then (some (-1 : Int32)) else (Option.bind (mX7_at p1 p2 p3) (fun u3 => (if u3 < 0 ∨ 96 ≤ (Int32.toNatClampNeg u3) then none else (some (m_cell (Int32.toNatClampNeg u3)))))))))
set_option maxHeartbeats 4000000 in
set_option maxRecDepth 100000 in
theorem bX7_cell {p : Program} {l : Launch} {e : Env} {s : State} {m : MethodId} {args : Array Value} {below : List Frame} {meth : Method} {c : Code} {Q : State → Prop} (C : kc p s m args meth c cX7_cell 4 RX7 yX7_cell.name wsX7_cell (some .int)) {D : va_G} {cI cT : ClassId} {mo m_product_a m_place_a m_ofX_a m_ofY_a m_step_a m_rows_a m_cell_a m_overs_a m_sure_a : Nat} (p1 : Int32) (p2 : Int32) (p3 : Int32) (hK : va_K D vwCl (kTy cI cT) s) (m_isWorked : Int32) (m_lines : Int32) (m_product : Nat → Int32) (m_place : Nat → Int32) (m_ofX : Nat → Int32) (m_ofY : Nat → Int32) (m_steps : Int32) (m_step : Nat → Int32) (m_rows : Nat → Int32) (m_cell : Nat → Int32) (m_overs : Nat → Int32) (m_sure : Nat → Int32) (hP : va_P D vwCl [(mo, .inr (4, [.int m_isWorked, .int m_lines, .ref m_product_a, .ref m_place_a, .ref m_ofX_a, .ref m_ofY_a, .int m_steps, .ref m_step_a, .ref m_rows_a, .ref m_cell_a, .ref m_overs_a, .ref m_sure_a])), (m_product_a, .inl (cI, 16, .inl m_product)), (m_place_a, .inl (cI, 16, .inl m_place)), (m_ofX_a, .inl (cI, 16, .inl m_ofX)), (m_ofY_a, .inl (cI, 16, .inl m_ofY)), (m_step_a, .inl (cI, 5, .inl m_step)), (m_rows_a, .inl (cI, 4, .inl m_rows)), (m_cell_a, .inl (cI, 96, .inl m_cell)), (m_overs_a, .inl (cI, 29, .inl m_overs)), (m_sure_a, .inl (cI, 24, .inl m_sure))] s.heap) (res : Int32) (hQ : ∀ (v : Int32) (pc : Nat) (ls : Array Slot), some v = some res → decode cX7_cell pc = .ok (.ireturn, 1) → W p l e rmX7_cell s m args below meth c s.heap [] 0 0 Q (F0 m pc ls [.int v])) : mX7_cell m_rows m_cell p1 p2 p3 = some res → ∀ (ls : Array Slot), lv_has ls 4 [(0, .ref mo), (1, .int p1), (2, .int p2), (3, .int p3)] → W p l e rmX7_cell s m args below meth c s.heap [] 0 0 Q (F0 m 0 ls []) := by
  intro h ls hl
  have C0 := C
  obtain ⟨hx, hb, hml, hown, hts, hr, hlk, hnm⟩ := C0
  rw [mX7_cell] at h
  refine lv_aload_n hx hb dX7_cell_0 rfl (lv_at hl 0 rfl) ?_
  refine lv_iload_n hx hb dX7_cell_1 rfl (lv_at hl 1 rfl) ?_
  refine lv_iload_n hx hb dX7_cell_2 rfl (lv_at hl 2 rfl) ?_
  refine lv_iload_n hx hb dX7_cell_3 rfl (lv_at hl 3 rfl) ?_
  obtain ⟨u1, hu1, h⟩ := md_b h
  refine kV C (ctX7_isCell l  hu1) gX7_cell_X7_isCell rfl kdvX7_isCell ⟨rfl, rfl⟩ ⟨by decide, by decide⟩ kW_blind (va_recv hK hP (ci := 4) (q0 := 0) rfl rfl) (kW_use hK (hP.sub (ws' := [(mo, .inr (4, [.int m_isWorked, .int m_lines, .ref m_product_a, .ref m_place_a, .ref m_ofX_a, .ref m_ofY_a, .int m_steps, .ref m_step_a, .ref m_rows_a, .ref m_cell_a, .ref m_overs_a, .ref m_sure_a])), (m_product_a, .inl (cI, 16, .inl m_product)), (m_place_a, .inl (cI, 16, .inl m_place)), (m_ofX_a, .inl (cI, 16, .inl m_ofX)), (m_ofY_a, .inl (cI, 16, .inl m_ofY)), (m_step_a, .inl (cI, 5, .inl m_step)), (m_rows_a, .inl (cI, 4, .inl m_rows)), (m_cell_a, .inl (cI, 96, .inl m_cell)), (m_overs_a, .inl (cI, 29, .inl m_overs)), (m_sure_a, .inl (cI, 24, .inl m_sure))]) [0, 1, 2, 3, 4, 5, 6, 7, 8, 9] rfl) kL_no) rfl hl [] rfl (Nat.le_of_ble_eq_true rfl) dX7_cell_4 ⟨by decide, by decide⟩ ?_
  refine lv_if_eq (tgt := 24) hx hb dX7_cell_7 (by decide) (fun c2 => ?_) (fun c2 => ?_)
  · replace h := md_t c2 h
    refine lv_iconst (v := -1) hx hb dX7_cell_24 (by decide) ?_
    exact hQ (-1 : Int32) 25 ls h dX7_cell_25
  replace h := md_f c2 h
  refine lv_aload_n hx hb dX7_cell_10 rfl (lv_at hl 0 rfl) ?_
  refine va_get (D := D) (ci := 4) (v := .ref m_cell_a) (C := RX7) (T := TX7) (N := 12) hx hb hts wi_X7_cell_X7 hown hK hP 0 rfl rfl 9 (by decide) (hts _ wm_X7_cell_0) (fun _ h9 => h9) rfl dX7_cell_11 ?_
  refine lv_iload_n hx hb dX7_cell_14 rfl (lv_at hl 1 rfl) ?_
  refine lv_iload_n hx hb dX7_cell_15 rfl (lv_at hl 2 rfl) ?_
  refine lv_iload_n hx hb dX7_cell_16 rfl (lv_at hl 3 rfl) ?_
  obtain ⟨u3, hu3, h⟩ := md_b h
  refine kS C (ctX7_at l  hu3) gX7_cell_X7_at rfl kdX7_at ⟨rfl, rfl⟩ ⟨by decide, by decide⟩ kT_blind (fun _ _ _ => trivial) rfl hl [.ref m_cell_a] rfl (Nat.le_of_ble_eq_true rfl) dX7_cell_17 ⟨by decide, by decide⟩ ?_
  obtain ⟨hin4, h⟩ := md_g h
  refine va_iald hx hb hK hP 7 0 rfl rfl hin4 dX7_cell_20 ?_
  refine lv_goto (tgt := 25) hx hb dX7_cell_21 (by decide) ?_
  exact hQ (m_cell (Int32.toNatClampNeg u3)) 25 ls h dX7_cell_25
set_option maxHeartbeats 4000000 in
theorem ctX7_cell (l : Launch) {D : va_G} {cI cT : ClassId} {mo m_product_a m_place_a m_ofX_a m_ofY_a m_step_a m_rows_a m_cell_a m_overs_a m_sure_a : Nat} {m_isWorked : Int32} {m_lines : Int32} {m_product : Nat → Int32} {m_place : Nat → Int32} {m_ofX : Nat → Int32} {m_ofY : Nat → Int32} {m_steps : Int32} {m_step : Nat → Int32} {m_rows : Nat → Int32} {m_cell : Nat → Int32} {m_overs : Nat → Int32} {m_sure : Nat → Int32} {p1 : Int32} {p2 : Int32} {p3 : Int32} {res : Int32} (hm : mX7_cell m_rows m_cell p1 p2 p3 = some res) : Met l yX7_cell wsX7_cell rmX7_cell (va_Pc [.ref mo, .int p1, .int p2, .int p3] (kW D cI cT [(mo, .inr (4, [.int m_isWorked, .int m_lines, .ref m_product_a, .ref m_place_a, .ref m_ofX_a, .ref m_ofY_a, .int m_steps, .ref m_step_a, .ref m_rows_a, .ref m_cell_a, .ref m_overs_a, .ref m_sure_a])), (m_product_a, .inl (cI, 16, .inl m_product)), (m_place_a, .inl (cI, 16, .inl m_place)), (m_ofX_a, .inl (cI, 16, .inl m_ofX)), (m_ofY_a, .inl (cI, 16, .inl m_ofY)), (m_step_a, .inl (cI, 5, .inl m_step)), (m_rows_a, .inl (cI, 4, .inl m_rows)), (m_cell_a, .inl (cI, 96, .inl m_cell)), (m_overs_a, .inl (cI, 29, .inl m_overs)), (m_sure_a, .inl (cI, 24, .inl m_sure))] none (fun _ => False))) (kR (.int res)) 0 0 (fun _ => False) :=
  km (by decide) rfl (Nat.le_of_ble_eq_true rfl) (fun p e s m below meth c ls C hB hl => bX7_cell C p1 p2 p3 hB.1 m_isWorked m_lines m_product m_place m_ofX m_ofY m_steps m_step m_rows m_cell m_overs m_sure hB.2.1 res (fun v pc ls h hd => kr_i C h hd) hm ls hl)
theorem wm_X7_copy_0 : Cond.constantLong RX7 110 (3) ∈ wsX7_copy := by decide +kernel
theorem wm_X7_copy_1 : Cond.constantLong RX7 72 (8) ∈ wsX7_copy := by decide +kernel
theorem wm_X7_copy_2 : Cond.fieldLink RX7 25 "SixtyTabletModel" "rows" "[I" ∈ wsX7_copy := by decide +kernel
theorem wm_X7_copy_3 : Cond.fieldLink RX7 28 "SixtyTabletModel" "cell" "[I" ∈ wsX7_copy := by decide +kernel
theorem wm_X7_copy_4 : Cond.constantLong RX7 144 (59) ∈ wsX7_copy := by decide +kernel
theorem wi_X7_copy_X7 : ∀ w ∈ wsX70, w ∈ wsX7_copy := by decide +kernel
theorem kdvX7_copy : yX7_copy.cls = RX7 ∧ yX7_copy.cls ≠ "java/lang/invoke/MethodHandle" ∧ yX7_copy.cls ≠ "java/lang/invoke/VarHandle" ∧ (parseMethodDescriptor yX7_copy.desc).map (fun d => d.parameters.length) = some 5 := by decide +kernel
abbrev rmX7_copy : Room := { frames := 4, cells := 0, slots := 0, locals := 92 }
def mlX7_copy_96 (x1 : Int32) (x2 : Int32) (x3 : Int32) (x4 : Int32) (x5 : Int32) (kE : (Nat → Int32) → Option (Int32 × (Nat → Int32) × (Nat → Int32))) : Nat → Int32 → (Nat → Int32) → Option (Int32 × (Nat → Int32) × (Nat → Int32))
  | 0, _, _ => none
  | n + 1, x6, m_cell => (if (24 : Int32) ≤ x6 then (kE m_cell) else (md_jn (fun (z2_143 : Int32) => (if (((24 : Int32) * x1) + x6) < 0 ∨ 96 ≤ (Int32.toNatClampNeg (((24 : Int32) * x1) + x6)) then none else (md_let (upd m_cell (Int32.toNatClampNeg (((24 : Int32) * x1) + x6)) z2_143) (fun (m_cell_14 : Nat → Int32) => (md_let (x6 + (1 : Int32)) (fun (x6_15 : Int32) => (mlX7_copy_96 x1 x2 x3 x4 x5 kE n x6_15 m_cell_14))))))) (fun kJ143 => (if ((3 : Int32) * x5) ≤ x6 then (kJ143 (0 : Int32)) else (Option.bind (mX7_inTable x2 x3 (x4 + (x6 / (3 : Int32))) (x6 - x6 / (3 : Int32) * (3 : Int32))) (fun u17 => (kJ143 u17)))))))
set_option maxHeartbeats 4000000 in
set_option maxRecDepth 100000 in
theorem lX7_copy_96 {p : Program} {l : Launch} {e : Env} {s : State} {m : MethodId} {args : Array Value} {below : List Frame} {meth : Method} {c : Code} {Q : State → Prop} (C : kc p s m args meth c cX7_copy 7 RX7 yX7_copy.name wsX7_copy (some .int)) {D : va_G} {cI cT : ClassId} {mo m_product_a m_place_a m_ofX_a m_ofY_a m_step_a m_rows_a m_cell_a m_overs_a m_sure_a : Nat} (hK : va_K D vwCl (kTy cI cT) s) (hnd : ([mo, m_product_a, m_place_a, m_ofX_a, m_ofY_a, m_step_a, m_rows_a, m_cell_a, m_overs_a, m_sure_a] : List Nat).Nodup) (x1 : Int32) (x2 : Int32) (x3 : Int32) (x4 : Int32) (x5 : Int32) (m_isWorked : Int32) (m_lines : Int32) (m_product : Nat → Int32) (m_place : Nat → Int32) (m_ofX : Nat → Int32) (m_ofY : Nat → Int32) (m_steps : Int32) (m_step : Nat → Int32) (m_rows : Nat → Int32) (m_overs : Nat → Int32) (m_sure : Nat → Int32) (res : (Int32 × (Nat → Int32) × (Nat → Int32))) (hQ : ∀ (v : Int32) (m_rows : Nat → Int32) (m_cell : Nat → Int32) (H : Heap) (locs : List Loc) (pc : Nat) (ls : Array Slot), some (v, m_rows, m_cell) = some res → va_P D vwCl [(mo, .inr (4, [.int m_isWorked, .int m_lines, .ref m_product_a, .ref m_place_a, .ref m_ofX_a, .ref m_ofY_a, .int m_steps, .ref m_step_a, .ref m_rows_a, .ref m_cell_a, .ref m_overs_a, .ref m_sure_a])), (m_product_a, .inl (cI, 16, .inl m_product)), (m_place_a, .inl (cI, 16, .inl m_place)), (m_ofX_a, .inl (cI, 16, .inl m_ofX)), (m_ofY_a, .inl (cI, 16, .inl m_ofY)), (m_step_a, .inl (cI, 5, .inl m_step)), (m_rows_a, .inl (cI, 4, .inl m_rows)), (m_cell_a, .inl (cI, 96, .inl m_cell)), (m_overs_a, .inl (cI, 29, .inl m_overs)), (m_sure_a, .inl (cI, 24, .inl m_sure))] H → va_S (fun q => q ∈ ([mo, m_product_a, m_place_a, m_ofX_a, m_ofY_a, m_step_a, m_rows_a, m_cell_a, m_overs_a, m_sure_a] : List Nat)) s.heap H locs → decode cX7_copy pc = .ok (.ireturn, 1) → W p l e rmX7_copy s m args below meth c H locs 0 0 Q (F0 m pc ls [.int v])) (kE : (Nat → Int32) → Option (Int32 × (Nat → Int32) × (Nat → Int32))) (hE : ∀ (m_cell : Nat → Int32), kE m_cell = some res → ∀ (H : Heap) (locs : List Loc), va_P D vwCl [(mo, .inr (4, [.int m_isWorked, .int m_lines, .ref m_product_a, .ref m_place_a, .ref m_ofX_a, .ref m_ofY_a, .int m_steps, .ref m_step_a, .ref m_rows_a, .ref m_cell_a, .ref m_overs_a, .ref m_sure_a])), (m_product_a, .inl (cI, 16, .inl m_product)), (m_place_a, .inl (cI, 16, .inl m_place)), (m_ofX_a, .inl (cI, 16, .inl m_ofX)), (m_ofY_a, .inl (cI, 16, .inl m_ofY)), (m_step_a, .inl (cI, 5, .inl m_step)), (m_rows_a, .inl (cI, 4, .inl m_rows)), (m_cell_a, .inl (cI, 96, .inl m_cell)), (m_overs_a, .inl (cI, 29, .inl m_overs)), (m_sure_a, .inl (cI, 24, .inl m_sure))] H → va_S (fun q => q ∈ ([mo, m_product_a, m_place_a, m_ofX_a, m_ofY_a, m_step_a, m_rows_a, m_cell_a, m_overs_a, m_sure_a] : List Nat)) s.heap H locs → ∀ (ls : Array Slot), lv_has ls 7 [(5, .int x5)] → W p l e rmX7_copy s m args below meth c H locs 0 0 Q (F0 m 150 ls [])) : ∀ (n : Nat), ∀ (x6 : Int32) (m_cell : Nat → Int32), mlX7_copy_96 x1 x2 x3 x4 x5 kE n x6 m_cell = some res → ∀ (H : Heap) (locs : List Loc), va_P D vwCl [(mo, .inr (4, [.int m_isWorked, .int m_lines, .ref m_product_a, .ref m_place_a, .ref m_ofX_a, .ref m_ofY_a, .int m_steps, .ref m_step_a, .ref m_rows_a, .ref m_cell_a, .ref m_overs_a, .ref m_sure_a])), (m_product_a, .inl (cI, 16, .inl m_product)), (m_place_a, .inl (cI, 16, .inl m_place)), (m_ofX_a, .inl (cI, 16, .inl m_ofX)), (m_ofY_a, .inl (cI, 16, .inl m_ofY)), (m_step_a, .inl (cI, 5, .inl m_step)), (m_rows_a, .inl (cI, 4, .inl m_rows)), (m_cell_a, .inl (cI, 96, .inl m_cell)), (m_overs_a, .inl (cI, 29, .inl m_overs)), (m_sure_a, .inl (cI, 24, .inl m_sure))] H → va_S (fun q => q ∈ ([mo, m_product_a, m_place_a, m_ofX_a, m_ofY_a, m_step_a, m_rows_a, m_cell_a, m_overs_a, m_sure_a] : List Nat)) s.heap H locs → ∀ (ls : Array Slot), lv_has ls 7 [(0, .ref mo), (1, .int x1), (2, .int x2), (3, .int x3), (4, .int x4), (5, .int x5), (6, .int x6)] → W p l e rmX7_copy s m args below meth c H locs 0 0 Q (F0 m 96 ls []) := by
  have C0 := C
  obtain ⟨hx, hb, hml, hown, hts, hr, hlk, hnm⟩ := C0
  intro n
  induction n with
  | zero => intro _ _ h; exact md_x h
  | succ n ih =>
    intro x6 m_cell h H locs hP hS ls hl
    rw [mlX7_copy_96] at h
    refine lv_iload hx hb dX7_copy_96 (lv_at hl 6 rfl) ?_
    refine lv_bipush (v := 24) hx hb dX7_copy_98 (by decide) ?_
    refine lv_icmp_ge (tgt := 150) hx hb dX7_copy_100 (by decide) (fun c13 => ?_) (fun c13 => ?_)
    · replace h := md_t c13 h
      exact hE m_cell h _ _ hP hS ls (lv_sub hl [5] rfl)
    replace h := md_f c13 h
    refine lv_aload_n hx hb dX7_copy_103 rfl (lv_at hl 0 rfl) ?_
    refine va_get (D := D) (ci := 4) (v := .ref m_cell_a) (C := RX7) (T := TX7) (N := 12) hx hb hts wi_X7_copy_X7 hown hK hP 0 rfl rfl 9 (by decide) (hts _ wm_X7_copy_3) (fun _ h9 => h9) rfl dX7_copy_104 ?_
    refine lv_bipush (v := 24) hx hb dX7_copy_107 (by decide) ?_
    refine lv_iload_n hx hb dX7_copy_109 rfl (lv_at hl 1 rfl) ?_
    refine lv_imul hx hb dX7_copy_110 ?_
    refine lv_iload hx hb dX7_copy_111 (lv_at hl 6 rfl) ?_
    refine lv_iadd hx hb dX7_copy_113 ?_
    refine lv_iload hx hb dX7_copy_114 (lv_at hl 6 rfl) ?_
    refine lv_iconst (v := 3) hx hb dX7_copy_116 (by decide) ?_
    refine lv_iload hx hb dX7_copy_117 (lv_at hl 5 rfl) ?_
    refine lv_imul hx hb dX7_copy_119 ?_
    obtain ⟨kJ143, ekJ143, h⟩ := md_jo h
    have KJ143 : ∀ (z2_143 : Int32), kJ143 z2_143 = some res → ∀ (H : Heap) (locs : List Loc), va_P D vwCl [(mo, .inr (4, [.int m_isWorked, .int m_lines, .ref m_product_a, .ref m_place_a, .ref m_ofX_a, .ref m_ofY_a, .int m_steps, .ref m_step_a, .ref m_rows_a, .ref m_cell_a, .ref m_overs_a, .ref m_sure_a])), (m_product_a, .inl (cI, 16, .inl m_product)), (m_place_a, .inl (cI, 16, .inl m_place)), (m_ofX_a, .inl (cI, 16, .inl m_ofX)), (m_ofY_a, .inl (cI, 16, .inl m_ofY)), (m_step_a, .inl (cI, 5, .inl m_step)), (m_rows_a, .inl (cI, 4, .inl m_rows)), (m_cell_a, .inl (cI, 96, .inl m_cell)), (m_overs_a, .inl (cI, 29, .inl m_overs)), (m_sure_a, .inl (cI, 24, .inl m_sure))] H → va_S (fun q => q ∈ ([mo, m_product_a, m_place_a, m_ofX_a, m_ofY_a, m_step_a, m_rows_a, m_cell_a, m_overs_a, m_sure_a] : List Nat)) s.heap H locs → ∀ (ls : Array Slot), lv_has ls 7 [(0, .ref mo), (1, .int x1), (2, .int x2), (3, .int x3), (4, .int x4), (5, .int x5), (6, .int x6)] → W p l e rmX7_copy s m args below meth c H locs 0 0 Q (F0 m 143 ls [.int z2_143, .int (((24 : Int32) * x1) + x6), .ref m_cell_a]) := by
      intro z2_143 h H locs hP hS ls hl
      rw [ekJ143] at h
      obtain ⟨hin14, h⟩ := md_g h
      refine va_iast hx hb hK hP (kD hnd rfl) hS 7 0 rfl rfl hin14 dX7_copy_143 (fun H locs hP _ hS => ?_)
      have hP : va_P D vwCl [(mo, .inr (4, [.int m_isWorked, .int m_lines, .ref m_product_a, .ref m_place_a, .ref m_ofX_a, .ref m_ofY_a, .int m_steps, .ref m_step_a, .ref m_rows_a, .ref m_cell_a, .ref m_overs_a, .ref m_sure_a])), (m_product_a, .inl (cI, 16, .inl m_product)), (m_place_a, .inl (cI, 16, .inl m_place)), (m_ofX_a, .inl (cI, 16, .inl m_ofX)), (m_ofY_a, .inl (cI, 16, .inl m_ofY)), (m_step_a, .inl (cI, 5, .inl m_step)), (m_rows_a, .inl (cI, 4, .inl m_rows)), (m_cell_a, .inl (cI, 96, .inl (upd m_cell (Int32.toNatClampNeg (((24 : Int32) * x1) + x6)) z2_143))), (m_overs_a, .inl (cI, 29, .inl m_overs)), (m_sure_a, .inl (cI, 24, .inl m_sure))] H := hP
      obtain ⟨m_cell_14, em_cell_14⟩ : ∃ y : Nat → Int32, y = (upd m_cell (Int32.toNatClampNeg (((24 : Int32) * x1) + x6)) z2_143) := ⟨_, rfl⟩
      replace h := md_le em_cell_14 h
      rw [← em_cell_14] at hP
      obtain ⟨x6_15, ex6_15⟩ : ∃ y : Int32, y = (x6 + (1 : Int32)) := ⟨_, rfl⟩
      replace h := md_le ex6_15 h
      refine lv_iinc (v := x6_15) (lv' := [(6, .int x6_15), (0, .ref mo), (1, .int x1), (2, .int x2), (3, .int x3), (4, .int x4), (5, .int x5)]) hx hb dX7_copy_144 hl (k := 6) rfl (by rw [ex6_15]; rfl) (by decide) rfl (fun ls hl => ?_)
      refine lv_goto (tgt := 96) hx hb dX7_copy_147 (by decide) ?_
      exact ih x6_15 m_cell_14 h _ _ hP hS ls (lv_sub hl [1, 2, 3, 4, 5, 6, 0] rfl)
    clear ekJ143
    refine lv_icmp_ge (tgt := 142) hx hb dX7_copy_120 (by decide) (fun c16 => ?_) (fun c16 => ?_)
    · replace h := md_t c16 h
      refine lv_iconst (v := 0) hx hb dX7_copy_142 (by decide) ?_
      exact KJ143 (0 : Int32) h _ _ hP hS ls (lv_sub hl [0, 1, 2, 3, 4, 5, 6] rfl)
    replace h := md_f c16 h
    refine lv_iload_n hx hb dX7_copy_123 rfl (lv_at hl 2 rfl) ?_
    refine lv_iload_n hx hb dX7_copy_124 rfl (lv_at hl 3 rfl) ?_
    refine lv_iload hx hb dX7_copy_125 (lv_at hl 4 rfl) ?_
    refine lv_iload hx hb dX7_copy_127 (lv_at hl 6 rfl) ?_
    refine lv_iconst (v := 3) hx hb dX7_copy_129 (by decide) ?_
    refine lv_idiv hx hb dX7_copy_130 (by decide) ?_
    refine lv_iadd hx hb dX7_copy_131 ?_
    refine lv_iload hx hb dX7_copy_132 (lv_at hl 6 rfl) ?_
    refine lv_iconst (v := 3) hx hb dX7_copy_134 (by decide) ?_
    refine lv_irem hx hb dX7_copy_135 (by decide) ?_
    obtain ⟨u17, hu17, h⟩ := md_b h
    refine kS C (ctX7_inTable l  hu17) gX7_copy_X7_inTable rfl kdX7_inTable ⟨rfl, rfl⟩ ⟨by decide, by decide⟩ kT_blind (fun _ _ _ => trivial) rfl hl [.int (((24 : Int32) * x1) + x6), .ref m_cell_a] rfl (Nat.le_of_ble_eq_true rfl) dX7_copy_136 ⟨by decide, by decide⟩ ?_
    refine lv_goto (tgt := 143) hx hb dX7_copy_139 (by decide) ?_
    exact KJ143 u17 h _ _ hP hS ls (lv_sub hl [0, 1, 2, 3, 4, 5, 6] rfl)
def mX7_copy (m_rows : Nat → Int32) (m_cell : Nat → Int32) (p1 : Int32) (p2 : Int32) (p3 : Int32) (p4 : Int32) (p5 : Int32) : Option (Int32 × (Nat → Int32) × (Nat → Int32)) := (Option.bind (mX7_isTablet p1) (fun u1 => (if u1 = 0 then (some ((-1 : Int32), m_rows, m_cell)) else (Option.bind (mX7_in (Int32.toInt64 p2) (0 : Int64) (3 : Int64)) (fun u3 => (if u3 = 0 then (some ((-2 : Int32), m_rows, m_cell)) else (md_jn (fun (z1_32 : Int64) => (md_jn (fun (z2_43 : Int64) => (Option.bind (mX7_in (Int32.toInt64 p3) z1_32 z2_43) (fun u5 => (if u5 = 0 then (some ((-2 : Int32), m_rows, m_cell)) else (Option.bind (mX7_in (Int32.toInt64 p5) (1 : Int64) (8 : Int64)) (fun u7 => (if u7 = 0 then (some ((-2 : Int32), m_rows, m_cell)) else (if p4 < 0 then (some ((-5 : Int32), m_rows, m_cell)) else (Option.bind (mX7_rowsOf p2) (fun u10 => (if p4 ≤ (u10 - p5) then (if p1 < 0 ∨ 4 ≤ (Int32.toNatClampNeg p1) then none else (md_let (upd m_rows (Int32.toNatClampNeg p1) p5) (fun (m_rows_12 : Nat → Int32) => (mlX7_copy_96 p1 p2 p3 p4 p5 (fun (m_cell_150 : Nat → Int32) => (some (p5, m_rows_12, m_cell_150))) kN (0 : Int32) m_cell)))) else (some ((-5 : Int32), m_rows, m_cell))))))))))))) (fun kJ43 => (if p2 = 0 then (kJ43 (59 : Int64)) else (kJ43 (0 : Int64)))))) (fun kJ32 => (if p2 = 0 then (kJ32 (1 : Int64)) else (kJ32 (0 : Int64)))))))))))
set_option maxHeartbeats 4000000 in
set_option maxRecDepth 100000 in
theorem bX7_copy {p : Program} {l : Launch} {e : Env} {s : State} {m : MethodId} {args : Array Value} {below : List Frame} {meth : Method} {c : Code} {Q : State → Prop} (C : kc p s m args meth c cX7_copy 7 RX7 yX7_copy.name wsX7_copy (some .int)) {D : va_G} {cI cT : ClassId} {mo m_product_a m_place_a m_ofX_a m_ofY_a m_step_a m_rows_a m_cell_a m_overs_a m_sure_a : Nat} (p1 : Int32) (p2 : Int32) (p3 : Int32) (p4 : Int32) (p5 : Int32) (hK : va_K D vwCl (kTy cI cT) s) (hnd : ([mo, m_product_a, m_place_a, m_ofX_a, m_ofY_a, m_step_a, m_rows_a, m_cell_a, m_overs_a, m_sure_a] : List Nat).Nodup) (m_isWorked : Int32) (m_lines : Int32) (m_product : Nat → Int32) (m_place : Nat → Int32) (m_ofX : Nat → Int32) (m_ofY : Nat → Int32) (m_steps : Int32) (m_step : Nat → Int32) (m_rows : Nat → Int32) (m_cell : Nat → Int32) (m_overs : Nat → Int32) (m_sure : Nat → Int32) (res : (Int32 × (Nat → Int32) × (Nat → Int32))) (hQ : ∀ (v : Int32) (m_rows : Nat → Int32) (m_cell : Nat → Int32) (H : Heap) (locs : List Loc) (pc : Nat) (ls : Array Slot), some (v, m_rows, m_cell) = some res → va_P D vwCl [(mo, .inr (4, [.int m_isWorked, .int m_lines, .ref m_product_a, .ref m_place_a, .ref m_ofX_a, .ref m_ofY_a, .int m_steps, .ref m_step_a, .ref m_rows_a, .ref m_cell_a, .ref m_overs_a, .ref m_sure_a])), (m_product_a, .inl (cI, 16, .inl m_product)), (m_place_a, .inl (cI, 16, .inl m_place)), (m_ofX_a, .inl (cI, 16, .inl m_ofX)), (m_ofY_a, .inl (cI, 16, .inl m_ofY)), (m_step_a, .inl (cI, 5, .inl m_step)), (m_rows_a, .inl (cI, 4, .inl m_rows)), (m_cell_a, .inl (cI, 96, .inl m_cell)), (m_overs_a, .inl (cI, 29, .inl m_overs)), (m_sure_a, .inl (cI, 24, .inl m_sure))] H → va_S (fun q => q ∈ ([mo, m_product_a, m_place_a, m_ofX_a, m_ofY_a, m_step_a, m_rows_a, m_cell_a, m_overs_a, m_sure_a] : List Nat)) s.heap H locs → decode cX7_copy pc = .ok (.ireturn, 1) → W p l e rmX7_copy s m args below meth c H locs 0 0 Q (F0 m pc ls [.int v])) : mX7_copy m_rows m_cell p1 p2 p3 p4 p5 = some res → ∀ (H : Heap) (locs : List Loc), va_P D vwCl [(mo, .inr (4, [.int m_isWorked, .int m_lines, .ref m_product_a, .ref m_place_a, .ref m_ofX_a, .ref m_ofY_a, .int m_steps, .ref m_step_a, .ref m_rows_a, .ref m_cell_a, .ref m_overs_a, .ref m_sure_a])), (m_product_a, .inl (cI, 16, .inl m_product)), (m_place_a, .inl (cI, 16, .inl m_place)), (m_ofX_a, .inl (cI, 16, .inl m_ofX)), (m_ofY_a, .inl (cI, 16, .inl m_ofY)), (m_step_a, .inl (cI, 5, .inl m_step)), (m_rows_a, .inl (cI, 4, .inl m_rows)), (m_cell_a, .inl (cI, 96, .inl m_cell)), (m_overs_a, .inl (cI, 29, .inl m_overs)), (m_sure_a, .inl (cI, 24, .inl m_sure))] H → va_S (fun q => q ∈ ([mo, m_product_a, m_place_a, m_ofX_a, m_ofY_a, m_step_a, m_rows_a, m_cell_a, m_overs_a, m_sure_a] : List Nat)) s.heap H locs → ∀ (ls : Array Slot), lv_has ls 7 [(0, .ref mo), (1, .int p1), (2, .int p2), (3, .int p3), (4, .int p4), (5, .int p5)] → W p l e rmX7_copy s m args below meth c H locs 0 0 Q (F0 m 0 ls []) := by
  intro h H locs hP hS ls hl
  have C0 := C
  obtain ⟨hx, hb, hml, hown, hts, hr, hlk, hnm⟩ := C0
  rw [mX7_copy] at h
  refine lv_iload_n hx hb dX7_copy_0 rfl (lv_at hl 1 rfl) ?_
  obtain ⟨u1, hu1, h⟩ := md_b h
  refine kS C (ctX7_isTablet l  hu1) gX7_copy_X7_isTablet rfl kdX7_isTablet ⟨rfl, rfl⟩ ⟨by decide, by decide⟩ kT_blind (fun _ _ _ => trivial) rfl hl [] rfl (Nat.le_of_ble_eq_true rfl) dX7_copy_1 ⟨by decide, by decide⟩ ?_
  refine lv_if_ne (tgt := 9) hx hb dX7_copy_4 (by decide) (fun c2 => ?_) (fun c2 => ?_)
  · replace h := md_f c2 h
    refine lv_iload_n hx hb dX7_copy_9 rfl (lv_at hl 2 rfl) ?_
    refine lv_i2l hx hb dX7_copy_10 rfl ?_
    refine lv_lconst (v := 0) hx hb dX7_copy_11 (by decide) ?_
    refine lv_ldc2 hx hb hown (hts _ wm_X7_copy_0) dX7_copy_12 ?_
    obtain ⟨u3, hu3, h⟩ := md_b h
    refine kS C (ctX7_in l  hu3) gX7_copy_X7_in rfl kdX7_in ⟨rfl, rfl⟩ ⟨by decide, by decide⟩ kT_blind (fun _ _ _ => trivial) rfl hl [] rfl (Nat.le_of_ble_eq_true rfl) dX7_copy_15 ⟨by decide, by decide⟩ ?_
    refine lv_if_eq (tgt := 62) hx hb dX7_copy_18 (by decide) (fun c4 => ?_) (fun c4 => ?_)
    · replace h := md_t c4 h
      refine lv_bipush (v := -2) hx hb dX7_copy_62 (by decide) ?_
      exact hQ (-2 : Int32) m_rows m_cell H locs 64 ls h hP hS dX7_copy_64
    replace h := md_f c4 h
    refine lv_iload_n hx hb dX7_copy_21 rfl (lv_at hl 3 rfl) ?_
    refine lv_i2l hx hb dX7_copy_22 rfl ?_
    refine lv_iload_n hx hb dX7_copy_23 rfl (lv_at hl 2 rfl) ?_
    obtain ⟨kJ32, ekJ32, h⟩ := md_jo h
    have KJ32 : ∀ (z1_32 : Int64), kJ32 z1_32 = some res → ∀ (H : Heap) (locs : List Loc), va_P D vwCl [(mo, .inr (4, [.int m_isWorked, .int m_lines, .ref m_product_a, .ref m_place_a, .ref m_ofX_a, .ref m_ofY_a, .int m_steps, .ref m_step_a, .ref m_rows_a, .ref m_cell_a, .ref m_overs_a, .ref m_sure_a])), (m_product_a, .inl (cI, 16, .inl m_product)), (m_place_a, .inl (cI, 16, .inl m_place)), (m_ofX_a, .inl (cI, 16, .inl m_ofX)), (m_ofY_a, .inl (cI, 16, .inl m_ofY)), (m_step_a, .inl (cI, 5, .inl m_step)), (m_rows_a, .inl (cI, 4, .inl m_rows)), (m_cell_a, .inl (cI, 96, .inl m_cell)), (m_overs_a, .inl (cI, 29, .inl m_overs)), (m_sure_a, .inl (cI, 24, .inl m_sure))] H → va_S (fun q => q ∈ ([mo, m_product_a, m_place_a, m_ofX_a, m_ofY_a, m_step_a, m_rows_a, m_cell_a, m_overs_a, m_sure_a] : List Nat)) s.heap H locs → ∀ (ls : Array Slot), lv_has ls 7 [(0, .ref mo), (1, .int p1), (2, .int p2), (3, .int p3), (4, .int p4), (5, .int p5)] → W p l e rmX7_copy s m args below meth c H locs 0 0 Q (F0 m 32 ls [.long z1_32, .long (Int32.toInt64 p3)]) := by
      intro z1_32 h H locs hP hS ls hl
      rw [ekJ32] at h
      refine lv_iload_n hx hb dX7_copy_32 rfl (lv_at hl 2 rfl) ?_
      obtain ⟨kJ43, ekJ43, h⟩ := md_jo h
      have KJ43 : ∀ (z2_43 : Int64), kJ43 z2_43 = some res → ∀ (H : Heap) (locs : List Loc), va_P D vwCl [(mo, .inr (4, [.int m_isWorked, .int m_lines, .ref m_product_a, .ref m_place_a, .ref m_ofX_a, .ref m_ofY_a, .int m_steps, .ref m_step_a, .ref m_rows_a, .ref m_cell_a, .ref m_overs_a, .ref m_sure_a])), (m_product_a, .inl (cI, 16, .inl m_product)), (m_place_a, .inl (cI, 16, .inl m_place)), (m_ofX_a, .inl (cI, 16, .inl m_ofX)), (m_ofY_a, .inl (cI, 16, .inl m_ofY)), (m_step_a, .inl (cI, 5, .inl m_step)), (m_rows_a, .inl (cI, 4, .inl m_rows)), (m_cell_a, .inl (cI, 96, .inl m_cell)), (m_overs_a, .inl (cI, 29, .inl m_overs)), (m_sure_a, .inl (cI, 24, .inl m_sure))] H → va_S (fun q => q ∈ ([mo, m_product_a, m_place_a, m_ofX_a, m_ofY_a, m_step_a, m_rows_a, m_cell_a, m_overs_a, m_sure_a] : List Nat)) s.heap H locs → ∀ (ls : Array Slot), lv_has ls 7 [(0, .ref mo), (1, .int p1), (2, .int p2), (3, .int p3), (4, .int p4), (5, .int p5)] → W p l e rmX7_copy s m args below meth c H locs 0 0 Q (F0 m 43 ls [.long z2_43, .long z1_32, .long (Int32.toInt64 p3)]) := by
        intro z2_43 h H locs hP hS ls hl
        rw [ekJ43] at h
        obtain ⟨u5, hu5, h⟩ := md_b h
        refine kS C (ctX7_in l  hu5) gX7_copy_X7_in rfl kdX7_in ⟨rfl, rfl⟩ ⟨by decide, by decide⟩ kT_blind (fun _ _ _ => trivial) rfl hl [] rfl (Nat.le_of_ble_eq_true rfl) dX7_copy_43 ⟨by decide, by decide⟩ ?_
        refine lv_if_eq (tgt := 62) hx hb dX7_copy_46 (by decide) (fun c6 => ?_) (fun c6 => ?_)
        · replace h := md_t c6 h
          refine lv_bipush (v := -2) hx hb dX7_copy_62 (by decide) ?_
          exact hQ (-2 : Int32) m_rows m_cell H locs 64 ls h hP hS dX7_copy_64
        replace h := md_f c6 h
        refine lv_iload hx hb dX7_copy_49 (lv_at hl 5 rfl) ?_
        refine lv_i2l hx hb dX7_copy_51 rfl ?_
        refine lv_lconst (v := 1) hx hb dX7_copy_52 (by decide) ?_
        refine lv_ldc2 hx hb hown (hts _ wm_X7_copy_1) dX7_copy_53 ?_
        obtain ⟨u7, hu7, h⟩ := md_b h
        refine kS C (ctX7_in l  hu7) gX7_copy_X7_in rfl kdX7_in ⟨rfl, rfl⟩ ⟨by decide, by decide⟩ kT_blind (fun _ _ _ => trivial) rfl hl [] rfl (Nat.le_of_ble_eq_true rfl) dX7_copy_56 ⟨by decide, by decide⟩ ?_
        refine lv_if_ne (tgt := 65) hx hb dX7_copy_59 (by decide) (fun c8 => ?_) (fun c8 => ?_)
        · replace h := md_f c8 h
          refine lv_iload hx hb dX7_copy_65 (lv_at hl 4 rfl) ?_
          refine lv_if_lt (tgt := 82) hx hb dX7_copy_67 (by decide) (fun c9 => ?_) (fun c9 => ?_)
          · replace h := md_t c9 h
            refine lv_bipush (v := -5) hx hb dX7_copy_82 (by decide) ?_
            exact hQ (-5 : Int32) m_rows m_cell H locs 84 ls h hP hS dX7_copy_84
          replace h := md_f c9 h
          refine lv_iload hx hb dX7_copy_70 (lv_at hl 4 rfl) ?_
          refine lv_iload_n hx hb dX7_copy_72 rfl (lv_at hl 2 rfl) ?_
          obtain ⟨u10, hu10, h⟩ := md_b h
          refine kS C (ctX7_rowsOf l  hu10) gX7_copy_X7_rowsOf rfl kdX7_rowsOf ⟨rfl, rfl⟩ ⟨by decide, by decide⟩ kT_blind (fun _ _ _ => trivial) rfl hl [.int p4] rfl (Nat.le_of_ble_eq_true rfl) dX7_copy_73 ⟨by decide, by decide⟩ ?_
          refine lv_iload hx hb dX7_copy_76 (lv_at hl 5 rfl) ?_
          refine lv_isub hx hb dX7_copy_78 ?_
          refine lv_icmp_le (tgt := 85) hx hb dX7_copy_79 (by decide) (fun c11 => ?_) (fun c11 => ?_)
          · replace h := md_t c11 h
            refine lv_aload_n hx hb dX7_copy_85 rfl (lv_at hl 0 rfl) ?_
            refine va_get (D := D) (ci := 4) (v := .ref m_rows_a) (C := RX7) (T := TX7) (N := 12) hx hb hts wi_X7_copy_X7 hown hK hP 0 rfl rfl 8 (by decide) (hts _ wm_X7_copy_2) (fun _ h9 => h9) rfl dX7_copy_86 ?_
            refine lv_iload_n hx hb dX7_copy_89 rfl (lv_at hl 1 rfl) ?_
            refine lv_iload hx hb dX7_copy_90 (lv_at hl 5 rfl) ?_
            obtain ⟨hin12, h⟩ := md_g h
            refine va_iast hx hb hK hP (kD hnd rfl) hS 6 0 rfl rfl hin12 dX7_copy_92 (fun H locs hP _ hS => ?_)
            have hP : va_P D vwCl [(mo, .inr (4, [.int m_isWorked, .int m_lines, .ref m_product_a, .ref m_place_a, .ref m_ofX_a, .ref m_ofY_a, .int m_steps, .ref m_step_a, .ref m_rows_a, .ref m_cell_a, .ref m_overs_a, .ref m_sure_a])), (m_product_a, .inl (cI, 16, .inl m_product)), (m_place_a, .inl (cI, 16, .inl m_place)), (m_ofX_a, .inl (cI, 16, .inl m_ofX)), (m_ofY_a, .inl (cI, 16, .inl m_ofY)), (m_step_a, .inl (cI, 5, .inl m_step)), (m_rows_a, .inl (cI, 4, .inl (upd m_rows (Int32.toNatClampNeg p1) p5))), (m_cell_a, .inl (cI, 96, .inl m_cell)), (m_overs_a, .inl (cI, 29, .inl m_overs)), (m_sure_a, .inl (cI, 24, .inl m_sure))] H := hP
            obtain ⟨m_rows_12, em_rows_12⟩ : ∃ y : Nat → Int32, y = (upd m_rows (Int32.toNatClampNeg p1) p5) := ⟨_, rfl⟩
            replace h := md_le em_rows_12 h
            rw [← em_rows_12] at hP
            refine lv_iconst (v := 0) hx hb dX7_copy_93 (by decide) ?_
            refine lv_istore (lv' := [(6, .int (0 : Int32)), (0, .ref mo), (1, .int p1), (2, .int p2), (3, .int p3), (4, .int p4), (5, .int p5)]) hx hb dX7_copy_94 hl (by decide) rfl (fun ls hl => ?_)
            refine lX7_copy_96 (mo := mo) (m_product_a := m_product_a) (m_place_a := m_place_a) (m_ofX_a := m_ofX_a) (m_ofY_a := m_ofY_a) (m_step_a := m_step_a) (m_rows_a := m_rows_a) (m_cell_a := m_cell_a) (m_overs_a := m_overs_a) (m_sure_a := m_sure_a) C hK hnd p1 p2 p3 p4 p5 m_isWorked m_lines m_product m_place m_ofX m_ofY m_steps m_step m_rows_12 m_overs m_sure res hQ _ (fun m_cell_150 h H locs hP hS ls hl => ?_) kN (0 : Int32) m_cell h _ _ hP hS ls (lv_sub hl [1, 2, 3, 4, 5, 6, 0] rfl)
            refine lv_iload hx hb dX7_copy_150 (lv_at hl 0 rfl) ?_
            exact hQ p5 m_rows_12 m_cell_150 H locs 152 ls h hP hS dX7_copy_152
          replace h := md_f c11 h
          refine lv_bipush (v := -5) hx hb dX7_copy_82 (by decide) ?_
          exact hQ (-5 : Int32) m_rows m_cell H locs 84 ls h hP hS dX7_copy_84
        replace h := md_t c8 h
        refine lv_bipush (v := -2) hx hb dX7_copy_62 (by decide) ?_
        exact hQ (-2 : Int32) m_rows m_cell H locs 64 ls h hP hS dX7_copy_64
      clear ekJ43
      refine lv_if_ne (tgt := 42) hx hb dX7_copy_33 (by decide) (fun c18 => ?_) (fun c18 => ?_)
      · replace h := md_f c18 h
        refine lv_lconst (v := 0) hx hb dX7_copy_42 (by decide) ?_
        exact KJ43 (0 : Int64) h _ _ hP hS ls (lv_sub hl [0, 1, 2, 3, 4, 5] rfl)
      replace h := md_t c18 h
      refine lv_ldc2 hx hb hown (hts _ wm_X7_copy_4) dX7_copy_36 ?_
      refine lv_goto (tgt := 43) hx hb dX7_copy_39 (by decide) ?_
      exact KJ43 (59 : Int64) h _ _ hP hS ls (lv_sub hl [0, 1, 2, 3, 4, 5] rfl)
    clear ekJ32
    refine lv_if_ne (tgt := 31) hx hb dX7_copy_24 (by decide) (fun c19 => ?_) (fun c19 => ?_)
    · replace h := md_f c19 h
      refine lv_lconst (v := 0) hx hb dX7_copy_31 (by decide) ?_
      exact KJ32 (0 : Int64) h _ _ hP hS ls (lv_sub hl [0, 1, 2, 3, 4, 5] rfl)
    replace h := md_t c19 h
    refine lv_lconst (v := 1) hx hb dX7_copy_27 (by decide) ?_
    refine lv_goto (tgt := 32) hx hb dX7_copy_28 (by decide) ?_
    exact KJ32 (1 : Int64) h _ _ hP hS ls (lv_sub hl [0, 1, 2, 3, 4, 5] rfl)
  replace h := md_t c2 h
  refine lv_iconst (v := -1) hx hb dX7_copy_7 (by decide) ?_
  exact hQ (-1 : Int32) m_rows m_cell H locs 8 ls h hP hS dX7_copy_8
set_option maxHeartbeats 4000000 in
theorem ctX7_copy (l : Launch) {D : va_G} {cI cT : ClassId} {mo m_product_a m_place_a m_ofX_a m_ofY_a m_step_a m_rows_a m_cell_a m_overs_a m_sure_a : Nat} {m_isWorked : Int32} {m_lines : Int32} {m_product : Nat → Int32} {m_place : Nat → Int32} {m_ofX : Nat → Int32} {m_ofY : Nat → Int32} {m_steps : Int32} {m_step : Nat → Int32} {m_rows : Nat → Int32} {m_cell : Nat → Int32} {m_overs : Nat → Int32} {m_sure : Nat → Int32} {p1 : Int32} {p2 : Int32} {p3 : Int32} {p4 : Int32} {p5 : Int32} {res : (Int32 × (Nat → Int32) × (Nat → Int32))} (hnd : ([mo, m_product_a, m_place_a, m_ofX_a, m_ofY_a, m_step_a, m_rows_a, m_cell_a, m_overs_a, m_sure_a] : List Nat).Nodup) (hm : mX7_copy m_rows m_cell p1 p2 p3 p4 p5 = some res) : Met l yX7_copy wsX7_copy rmX7_copy (va_Pc [.ref mo, .int p1, .int p2, .int p3, .int p4, .int p5] (kW D cI cT [(mo, .inr (4, [.int m_isWorked, .int m_lines, .ref m_product_a, .ref m_place_a, .ref m_ofX_a, .ref m_ofY_a, .int m_steps, .ref m_step_a, .ref m_rows_a, .ref m_cell_a, .ref m_overs_a, .ref m_sure_a])), (m_product_a, .inl (cI, 16, .inl m_product)), (m_place_a, .inl (cI, 16, .inl m_place)), (m_ofX_a, .inl (cI, 16, .inl m_ofX)), (m_ofY_a, .inl (cI, 16, .inl m_ofY)), (m_step_a, .inl (cI, 5, .inl m_step)), (m_rows_a, .inl (cI, 4, .inl m_rows)), (m_cell_a, .inl (cI, 96, .inl m_cell)), (m_overs_a, .inl (cI, 29, .inl m_overs)), (m_sure_a, .inl (cI, 24, .inl m_sure))] none (fun q => q ∈ ([mo, m_product_a, m_place_a, m_ofX_a, m_ofY_a, m_step_a, m_rows_a, m_cell_a, m_overs_a, m_sure_a] : List Nat)))) (kX (some (.int res.1)) D [(mo, .inr (4, [.int m_isWorked, .int m_lines, .ref m_product_a, .ref m_place_a, .ref m_ofX_a, .ref m_ofY_a, .int m_steps, .ref m_step_a, .ref m_rows_a, .ref m_cell_a, .ref m_overs_a, .ref m_sure_a])), (m_product_a, .inl (cI, 16, .inl m_product)), (m_place_a, .inl (cI, 16, .inl m_place)), (m_ofX_a, .inl (cI, 16, .inl m_ofX)), (m_ofY_a, .inl (cI, 16, .inl m_ofY)), (m_step_a, .inl (cI, 5, .inl m_step)), (m_rows_a, .inl (cI, 4, .inl res.2.1)), (m_cell_a, .inl (cI, 96, .inl res.2.2)), (m_overs_a, .inl (cI, 29, .inl m_overs)), (m_sure_a, .inl (cI, 24, .inl m_sure))] (fun q => q ∈ ([mo, m_product_a, m_place_a, m_ofX_a, m_ofY_a, m_step_a, m_rows_a, m_cell_a, m_overs_a, m_sure_a] : List Nat))) 0 0 (fun q => q ∈ ([mo, m_product_a, m_place_a, m_ofX_a, m_ofY_a, m_step_a, m_rows_a, m_cell_a, m_overs_a, m_sure_a] : List Nat)) :=
  km (by decide) rfl (Nat.le_of_ble_eq_true rfl) (fun p e s m below meth c ls C hB hl => bX7_copy C p1 p2 p3 p4 p5 hB.1 hnd m_isWorked m_lines m_product m_place m_ofX m_ofY m_steps m_step m_rows m_cell m_overs m_sure res (fun v m_rows1 m_cell1 H locs pc ls h hP hS hd => by obtain rfl := Option.some.inj h; exact kx_i C hP hS hd) hm s.heap [] hB.2.1 va_S.rf ls hl)
theorem wm_X7_tableAt_0 : Cond.fieldLink RX7 31 "SixtyTabletModel" "overs" "[I" ∈ wsX7_tableAt := by decide +kernel
theorem wi_X7_tableAt_X7 : ∀ w ∈ wsX70, w ∈ wsX7_tableAt := by decide +kernel
theorem kdvX7_tableAt : yX7_tableAt.cls = RX7 ∧ yX7_tableAt.cls ≠ "java/lang/invoke/MethodHandle" ∧ yX7_tableAt.cls ≠ "java/lang/invoke/VarHandle" ∧ (parseMethodDescriptor yX7_tableAt.desc).map (fun d => d.parameters.length) = some 4 := by decide +kernel
abbrev rmX7_tableAt : Room := { frames := 4, cells := 0, slots := 0, locals := 92 }
def mX7_tableAt (m_overs : Nat → Int32) (p1 : Int32) (p2 : Int32) (p3 : Int32) (p4 : Int32) : Option (Int32 × (Nat → Int32)) := (md_jn (fun (u_42 : Unit) => (Option.bind (mX7_inTable p1 p2 p3 p4) (fun u1 => (some (u1, m_overs))))) (fun kJ42 => (if p1 = (1 : Int32) then (if p4 = (1 : Int32) then (if p3 < 0 ∨ 29 ≤ (Int32.toNatClampNeg p3) then none else (md_jn (fun (m_overs_35 : Nat → Int32) => (if p3 < 0 ∨ 29 ≤ (Int32.toNatClampNeg p3) then none else (some ((m_overs_35 (Int32.toNatClampNeg p3)), m_overs_35)))) (fun kJ35 => (if (m_overs (Int32.toNatClampNeg p3)) = 0 then (Option.bind (mX7_listAt p3) (fun u7 => (Option.bind (mX7_turnedOf (Int32.toInt64 u7)) (fun u8 => (if p3 < 0 ∨ 29 ≤ (Int32.toNatClampNeg p3) then none else (md_let (upd m_overs (Int32.toNatClampNeg p3) (Int64.toInt32 u8)) (fun (m_overs_9 : Nat → Int32) => (kJ35 m_overs_9)))))))) else (kJ35 m_overs))))) else (kJ42 ())) else (kJ42 ()))))
set_option maxHeartbeats 4000000 in
set_option maxRecDepth 100000 in
theorem bX7_tableAt {p : Program} {l : Launch} {e : Env} {s : State} {m : MethodId} {args : Array Value} {below : List Frame} {meth : Method} {c : Code} {Q : State → Prop} (C : kc p s m args meth c cX7_tableAt 5 RX7 yX7_tableAt.name wsX7_tableAt (some .int)) {D : va_G} {cI cT : ClassId} {mo m_product_a m_place_a m_ofX_a m_ofY_a m_step_a m_rows_a m_cell_a m_overs_a m_sure_a : Nat} (p1 : Int32) (p2 : Int32) (p3 : Int32) (p4 : Int32) (hK : va_K D vwCl (kTy cI cT) s) (hnd : ([mo, m_product_a, m_place_a, m_ofX_a, m_ofY_a, m_step_a, m_rows_a, m_cell_a, m_overs_a, m_sure_a] : List Nat).Nodup) (m_isWorked : Int32) (m_lines : Int32) (m_product : Nat → Int32) (m_place : Nat → Int32) (m_ofX : Nat → Int32) (m_ofY : Nat → Int32) (m_steps : Int32) (m_step : Nat → Int32) (m_rows : Nat → Int32) (m_cell : Nat → Int32) (m_overs : Nat → Int32) (m_sure : Nat → Int32) (res : (Int32 × (Nat → Int32))) (hQ : ∀ (v : Int32) (m_overs : Nat → Int32) (H : Heap) (locs : List Loc) (pc : Nat) (ls : Array Slot), some (v, m_overs) = some res → va_P D vwCl [(mo, .inr (4, [.int m_isWorked, .int m_lines, .ref m_product_a, .ref m_place_a, .ref m_ofX_a, .ref m_ofY_a, .int m_steps, .ref m_step_a, .ref m_rows_a, .ref m_cell_a, .ref m_overs_a, .ref m_sure_a])), (m_product_a, .inl (cI, 16, .inl m_product)), (m_place_a, .inl (cI, 16, .inl m_place)), (m_ofX_a, .inl (cI, 16, .inl m_ofX)), (m_ofY_a, .inl (cI, 16, .inl m_ofY)), (m_step_a, .inl (cI, 5, .inl m_step)), (m_rows_a, .inl (cI, 4, .inl m_rows)), (m_cell_a, .inl (cI, 96, .inl m_cell)), (m_overs_a, .inl (cI, 29, .inl m_overs)), (m_sure_a, .inl (cI, 24, .inl m_sure))] H → va_S (fun q => q ∈ ([mo, m_product_a, m_place_a, m_ofX_a, m_ofY_a, m_step_a, m_rows_a, m_cell_a, m_overs_a, m_sure_a] : List Nat)) s.heap H locs → decode cX7_tableAt pc = .ok (.ireturn, 1) → W p l e rmX7_tableAt s m args below meth c H locs 0 0 Q (F0 m pc ls [.int v])) : mX7_tableAt m_overs p1 p2 p3 p4 = some res → ∀ (H : Heap) (locs : List Loc), va_P D vwCl [(mo, .inr (4, [.int m_isWorked, .int m_lines, .ref m_product_a, .ref m_place_a, .ref m_ofX_a, .ref m_ofY_a, .int m_steps, .ref m_step_a, .ref m_rows_a, .ref m_cell_a, .ref m_overs_a, .ref m_sure_a])), (m_product_a, .inl (cI, 16, .inl m_product)), (m_place_a, .inl (cI, 16, .inl m_place)), (m_ofX_a, .inl (cI, 16, .inl m_ofX)), (m_ofY_a, .inl (cI, 16, .inl m_ofY)), (m_step_a, .inl (cI, 5, .inl m_step)), (m_rows_a, .inl (cI, 4, .inl m_rows)), (m_cell_a, .inl (cI, 96, .inl m_cell)), (m_overs_a, .inl (cI, 29, .inl m_overs)), (m_sure_a, .inl (cI, 24, .inl m_sure))] H → va_S (fun q => q ∈ ([mo, m_product_a, m_place_a, m_ofX_a, m_ofY_a, m_step_a, m_rows_a, m_cell_a, m_overs_a, m_sure_a] : List Nat)) s.heap H locs → ∀ (ls : Array Slot), lv_has ls 5 [(0, .ref mo), (1, .int p1), (2, .int p2), (3, .int p3), (4, .int p4)] → W p l e rmX7_tableAt s m args below meth c H locs 0 0 Q (F0 m 0 ls []) := by
  intro h H locs hP hS ls hl
  have C0 := C
  obtain ⟨hx, hb, hml, hown, hts, hr, hlk, hnm⟩ := C0
  rw [mX7_tableAt] at h
  refine lv_iload_n hx hb dX7_tableAt_0 rfl (lv_at hl 1 rfl) ?_
  refine lv_iconst (v := 1) hx hb dX7_tableAt_1 (by decide) ?_
  obtain ⟨kJ42, ekJ42, h⟩ := md_jo h
  have KJ42 : ∀ (u_42 : Unit), kJ42 u_42 = some res → ∀ (H : Heap) (locs : List Loc), va_P D vwCl [(mo, .inr (4, [.int m_isWorked, .int m_lines, .ref m_product_a, .ref m_place_a, .ref m_ofX_a, .ref m_ofY_a, .int m_steps, .ref m_step_a, .ref m_rows_a, .ref m_cell_a, .ref m_overs_a, .ref m_sure_a])), (m_product_a, .inl (cI, 16, .inl m_product)), (m_place_a, .inl (cI, 16, .inl m_place)), (m_ofX_a, .inl (cI, 16, .inl m_ofX)), (m_ofY_a, .inl (cI, 16, .inl m_ofY)), (m_step_a, .inl (cI, 5, .inl m_step)), (m_rows_a, .inl (cI, 4, .inl m_rows)), (m_cell_a, .inl (cI, 96, .inl m_cell)), (m_overs_a, .inl (cI, 29, .inl m_overs)), (m_sure_a, .inl (cI, 24, .inl m_sure))] H → va_S (fun q => q ∈ ([mo, m_product_a, m_place_a, m_ofX_a, m_ofY_a, m_step_a, m_rows_a, m_cell_a, m_overs_a, m_sure_a] : List Nat)) s.heap H locs → ∀ (ls : Array Slot), lv_has ls 5 [(1, .int p1), (2, .int p2), (3, .int p3), (4, .int p4)] → W p l e rmX7_tableAt s m args below meth c H locs 0 0 Q (F0 m 42 ls []) := by
    intro u_42 h H locs hP hS ls hl
    rw [ekJ42] at h
    refine lv_iload_n hx hb dX7_tableAt_42 rfl (lv_at hl 0 rfl) ?_
    refine lv_iload_n hx hb dX7_tableAt_43 rfl (lv_at hl 1 rfl) ?_
    refine lv_iload_n hx hb dX7_tableAt_44 rfl (lv_at hl 2 rfl) ?_
    refine lv_iload hx hb dX7_tableAt_45 (lv_at hl 3 rfl) ?_
    obtain ⟨u1, hu1, h⟩ := md_b h
    refine kS C (ctX7_inTable l  hu1) gX7_tableAt_X7_inTable rfl kdX7_inTable ⟨rfl, rfl⟩ ⟨by decide, by decide⟩ kT_blind (fun _ _ _ => trivial) rfl hl [] rfl (Nat.le_of_ble_eq_true rfl) dX7_tableAt_47 ⟨by decide, by decide⟩ ?_
    exact hQ u1 m_overs H locs 50 ls h hP hS dX7_tableAt_50
  clear ekJ42
  refine lv_icmp_ne (tgt := 42) hx hb dX7_tableAt_2 (by decide) (fun c2 => ?_) (fun c2 => ?_)
  · replace h := md_f c2 h
    exact KJ42 () h _ _ hP hS ls (lv_sub hl [1, 2, 3, 4] rfl)
  replace h := md_t c2 h
  refine lv_iload hx hb dX7_tableAt_5 (lv_at hl 4 rfl) ?_
  refine lv_iconst (v := 1) hx hb dX7_tableAt_7 (by decide) ?_
  refine lv_icmp_ne (tgt := 42) hx hb dX7_tableAt_8 (by decide) (fun c3 => ?_) (fun c3 => ?_)
  · replace h := md_f c3 h
    exact KJ42 () h _ _ hP hS ls (lv_sub hl [1, 2, 3, 4] rfl)
  replace h := md_t c3 h
  refine lv_aload_n hx hb dX7_tableAt_11 rfl (lv_at hl 0 rfl) ?_
  refine va_get (D := D) (ci := 4) (v := .ref m_overs_a) (C := RX7) (T := TX7) (N := 12) hx hb hts wi_X7_tableAt_X7 hown hK hP 0 rfl rfl 10 (by decide) (hts _ wm_X7_tableAt_0) (fun _ h9 => h9) rfl dX7_tableAt_12 ?_
  refine lv_iload_n hx hb dX7_tableAt_15 rfl (lv_at hl 3 rfl) ?_
  obtain ⟨hin4, h⟩ := md_g h
  refine va_iald hx hb hK hP 8 0 rfl rfl hin4 dX7_tableAt_16 ?_
  obtain ⟨kJ35, ekJ35, h⟩ := md_jo h
  have KJ35 : ∀ (m_overs_35 : Nat → Int32), kJ35 m_overs_35 = some res → ∀ (H : Heap) (locs : List Loc), va_P D vwCl [(mo, .inr (4, [.int m_isWorked, .int m_lines, .ref m_product_a, .ref m_place_a, .ref m_ofX_a, .ref m_ofY_a, .int m_steps, .ref m_step_a, .ref m_rows_a, .ref m_cell_a, .ref m_overs_a, .ref m_sure_a])), (m_product_a, .inl (cI, 16, .inl m_product)), (m_place_a, .inl (cI, 16, .inl m_place)), (m_ofX_a, .inl (cI, 16, .inl m_ofX)), (m_ofY_a, .inl (cI, 16, .inl m_ofY)), (m_step_a, .inl (cI, 5, .inl m_step)), (m_rows_a, .inl (cI, 4, .inl m_rows)), (m_cell_a, .inl (cI, 96, .inl m_cell)), (m_overs_a, .inl (cI, 29, .inl m_overs_35)), (m_sure_a, .inl (cI, 24, .inl m_sure))] H → va_S (fun q => q ∈ ([mo, m_product_a, m_place_a, m_ofX_a, m_ofY_a, m_step_a, m_rows_a, m_cell_a, m_overs_a, m_sure_a] : List Nat)) s.heap H locs → ∀ (ls : Array Slot), lv_has ls 5 [(0, .ref mo), (3, .int p3)] → W p l e rmX7_tableAt s m args below meth c H locs 0 0 Q (F0 m 35 ls []) := by
    intro m_overs_35 h H locs hP hS ls hl
    rw [ekJ35] at h
    refine lv_aload_n hx hb dX7_tableAt_35 rfl (lv_at hl 0 rfl) ?_
    refine va_get (D := D) (ci := 4) (v := .ref m_overs_a) (C := RX7) (T := TX7) (N := 12) hx hb hts wi_X7_tableAt_X7 hown hK hP 0 rfl rfl 10 (by decide) (hts _ wm_X7_tableAt_0) (fun _ h9 => h9) rfl dX7_tableAt_36 ?_
    refine lv_iload_n hx hb dX7_tableAt_39 rfl (lv_at hl 1 rfl) ?_
    obtain ⟨hin5, h⟩ := md_g h
    refine va_iald hx hb hK hP 8 0 rfl rfl hin5 dX7_tableAt_40 ?_
    exact hQ (m_overs_35 (Int32.toNatClampNeg p3)) m_overs_35 H locs 41 ls h hP hS dX7_tableAt_41
  clear ekJ35
  refine lv_if_ne (tgt := 35) hx hb dX7_tableAt_17 (by decide) (fun c6 => ?_) (fun c6 => ?_)
  · replace h := md_f c6 h
    exact KJ35 m_overs h _ _ hP hS ls (lv_sub hl [0, 3] rfl)
  replace h := md_t c6 h
  refine lv_aload_n hx hb dX7_tableAt_20 rfl (lv_at hl 0 rfl) ?_
  refine va_get (D := D) (ci := 4) (v := .ref m_overs_a) (C := RX7) (T := TX7) (N := 12) hx hb hts wi_X7_tableAt_X7 hown hK hP 0 rfl rfl 10 (by decide) (hts _ wm_X7_tableAt_0) (fun _ h9 => h9) rfl dX7_tableAt_21 ?_
  refine lv_iload_n hx hb dX7_tableAt_24 rfl (lv_at hl 3 rfl) ?_
  refine lv_iload_n hx hb dX7_tableAt_25 rfl (lv_at hl 3 rfl) ?_
  obtain ⟨u7, hu7, h⟩ := md_b h
  refine kS C (ctX7_listAt l  hu7) gX7_tableAt_X7_listAt rfl kdX7_listAt ⟨rfl, rfl⟩ ⟨by decide, by decide⟩ kT_blind (fun _ _ _ => trivial) rfl hl [.int p3, .ref m_overs_a] rfl (Nat.le_of_ble_eq_true rfl) dX7_tableAt_26 ⟨by decide, by decide⟩ ?_
  refine lv_i2l hx hb dX7_tableAt_29 rfl ?_
  obtain ⟨u8, hu8, h⟩ := md_b h
  refine kS C (ctX7_turnedOf l  hu8) gX7_tableAt_X7_turnedOf rfl kdX7_turnedOf ⟨rfl, rfl⟩ ⟨by decide, by decide⟩ kT_blind (fun _ _ _ => trivial) rfl hl [.int p3, .ref m_overs_a] rfl (Nat.le_of_ble_eq_true rfl) dX7_tableAt_30 ⟨by decide, by decide⟩ ?_
  refine lv_l2i hx hb dX7_tableAt_33 rfl ?_
  obtain ⟨hin9, h⟩ := md_g h
  refine va_iast hx hb hK hP (kD hnd rfl) hS 8 0 rfl rfl hin9 dX7_tableAt_34 (fun H locs hP _ hS => ?_)
  have hP : va_P D vwCl [(mo, .inr (4, [.int m_isWorked, .int m_lines, .ref m_product_a, .ref m_place_a, .ref m_ofX_a, .ref m_ofY_a, .int m_steps, .ref m_step_a, .ref m_rows_a, .ref m_cell_a, .ref m_overs_a, .ref m_sure_a])), (m_product_a, .inl (cI, 16, .inl m_product)), (m_place_a, .inl (cI, 16, .inl m_place)), (m_ofX_a, .inl (cI, 16, .inl m_ofX)), (m_ofY_a, .inl (cI, 16, .inl m_ofY)), (m_step_a, .inl (cI, 5, .inl m_step)), (m_rows_a, .inl (cI, 4, .inl m_rows)), (m_cell_a, .inl (cI, 96, .inl m_cell)), (m_overs_a, .inl (cI, 29, .inl (upd m_overs (Int32.toNatClampNeg p3) (Int64.toInt32 u8)))), (m_sure_a, .inl (cI, 24, .inl m_sure))] H := hP
  obtain ⟨m_overs_9, em_overs_9⟩ : ∃ y : Nat → Int32, y = (upd m_overs (Int32.toNatClampNeg p3) (Int64.toInt32 u8)) := ⟨_, rfl⟩
  replace h := md_le em_overs_9 h
  rw [← em_overs_9] at hP
  exact KJ35 m_overs_9 h _ _ hP hS ls (lv_sub hl [0, 3] rfl)
set_option maxHeartbeats 4000000 in
theorem ctX7_tableAt (l : Launch) {D : va_G} {cI cT : ClassId} {mo m_product_a m_place_a m_ofX_a m_ofY_a m_step_a m_rows_a m_cell_a m_overs_a m_sure_a : Nat} {m_isWorked : Int32} {m_lines : Int32} {m_product : Nat → Int32} {m_place : Nat → Int32} {m_ofX : Nat → Int32} {m_ofY : Nat → Int32} {m_steps : Int32} {m_step : Nat → Int32} {m_rows : Nat → Int32} {m_cell : Nat → Int32} {m_overs : Nat → Int32} {m_sure : Nat → Int32} {p1 : Int32} {p2 : Int32} {p3 : Int32} {p4 : Int32} {res : (Int32 × (Nat → Int32))} (hnd : ([mo, m_product_a, m_place_a, m_ofX_a, m_ofY_a, m_step_a, m_rows_a, m_cell_a, m_overs_a, m_sure_a] : List Nat).Nodup) (hm : mX7_tableAt m_overs p1 p2 p3 p4 = some res) : Met l yX7_tableAt wsX7_tableAt rmX7_tableAt (va_Pc [.ref mo, .int p1, .int p2, .int p3, .int p4] (kW D cI cT [(mo, .inr (4, [.int m_isWorked, .int m_lines, .ref m_product_a, .ref m_place_a, .ref m_ofX_a, .ref m_ofY_a, .int m_steps, .ref m_step_a, .ref m_rows_a, .ref m_cell_a, .ref m_overs_a, .ref m_sure_a])), (m_product_a, .inl (cI, 16, .inl m_product)), (m_place_a, .inl (cI, 16, .inl m_place)), (m_ofX_a, .inl (cI, 16, .inl m_ofX)), (m_ofY_a, .inl (cI, 16, .inl m_ofY)), (m_step_a, .inl (cI, 5, .inl m_step)), (m_rows_a, .inl (cI, 4, .inl m_rows)), (m_cell_a, .inl (cI, 96, .inl m_cell)), (m_overs_a, .inl (cI, 29, .inl m_overs)), (m_sure_a, .inl (cI, 24, .inl m_sure))] none (fun q => q ∈ ([mo, m_product_a, m_place_a, m_ofX_a, m_ofY_a, m_step_a, m_rows_a, m_cell_a, m_overs_a, m_sure_a] : List Nat)))) (kX (some (.int res.1)) D [(mo, .inr (4, [.int m_isWorked, .int m_lines, .ref m_product_a, .ref m_place_a, .ref m_ofX_a, .ref m_ofY_a, .int m_steps, .ref m_step_a, .ref m_rows_a, .ref m_cell_a, .ref m_overs_a, .ref m_sure_a])), (m_product_a, .inl (cI, 16, .inl m_product)), (m_place_a, .inl (cI, 16, .inl m_place)), (m_ofX_a, .inl (cI, 16, .inl m_ofX)), (m_ofY_a, .inl (cI, 16, .inl m_ofY)), (m_step_a, .inl (cI, 5, .inl m_step)), (m_rows_a, .inl (cI, 4, .inl m_rows)), (m_cell_a, .inl (cI, 96, .inl m_cell)), (m_overs_a, .inl (cI, 29, .inl res.2)), (m_sure_a, .inl (cI, 24, .inl m_sure))] (fun q => q ∈ ([mo, m_product_a, m_place_a, m_ofX_a, m_ofY_a, m_step_a, m_rows_a, m_cell_a, m_overs_a, m_sure_a] : List Nat))) 0 0 (fun q => q ∈ ([mo, m_product_a, m_place_a, m_ofX_a, m_ofY_a, m_step_a, m_rows_a, m_cell_a, m_overs_a, m_sure_a] : List Nat)) :=
  km (by decide) rfl (Nat.le_of_ble_eq_true rfl) (fun p e s m below meth c ls C hB hl => bX7_tableAt C p1 p2 p3 p4 hB.1 hnd m_isWorked m_lines m_product m_place m_ofX m_ofY m_steps m_step m_rows m_cell m_overs m_sure res (fun v m_overs1 H locs pc ls h hP hS hd => by obtain rfl := Option.some.inj h; exact kx_i C hP hS hd) hm s.heap [] hB.2.1 va_S.rf ls hl)
theorem wm_X7_unlike_0 : Cond.fieldLink RX7 25 "SixtyTabletModel" "rows" "[I" ∈ wsX7_unlike := by decide +kernel
theorem wm_X7_unlike_1 : Cond.fieldLink RX7 28 "SixtyTabletModel" "cell" "[I" ∈ wsX7_unlike := by decide +kernel
theorem wi_X7_unlike_X7 : ∀ w ∈ wsX70, w ∈ wsX7_unlike := by decide +kernel
theorem kdvX7_unlike : yX7_unlike.cls = RX7 ∧ yX7_unlike.cls ≠ "java/lang/invoke/MethodHandle" ∧ yX7_unlike.cls ≠ "java/lang/invoke/VarHandle" ∧ (parseMethodDescriptor yX7_unlike.desc).map (fun d => d.parameters.length) = some 4 := by decide +kernel
abbrev rmX7_unlike : Room := { frames := 5, cells := 0, slots := 0, locals := 116 }
def mlX7_unlike_26 (x1 : Int32) (x2 : Int32) (x3 : Int32) (x4 : Int32) (x7 : Int32) (m_cell : Nat → Int32) (kE : Int32 → (Nat → Int32) → Option (Int32 × (Nat → Int32))) : Nat → Int32 → Int32 → (Nat → Int32) → Option (Int32 × (Nat → Int32))
  | 0, _, _, _ => none
  | n + 1, x8, x9, m_overs => (if (3 : Int32) ≤ x9 then (kE x8 m_overs) else (if x8 = 0 then (kE x8 m_overs) else (Option.bind (mX7_at x1 x7 x9) (fun u5 => (if u5 < 0 ∨ 96 ≤ (Int32.toNatClampNeg u5) then none else (md_let (m_cell (Int32.toNatClampNeg u5)) (fun (x10_7 : Int32) => (md_jn (fun (z0_83 : Int32) (m_overs_83 : Nat → Int32) => (md_let (x9 + (1 : Int32)) (fun (x9_8 : Int32) => (mlX7_unlike_26 x1 x2 x3 x4 x7 m_cell kE n z0_83 x9_8 m_overs_83)))) (fun kJ83 => (md_jn (fun (m_overs_78 : Nat → Int32) => (kJ83 (1 : Int32) m_overs_78)) (fun kJ78 => (if x10_7 = 0 then (kJ78 m_overs) else (Option.bind (mX7_tableAt m_overs x2 x3 (x4 + x7) x9) (fun u10 => (Option.bind (mX7_agree x10_7 u10.1) (fun u11 => (if u11 = 0 then (kJ83 (0 : Int32) u10.2) else (kJ78 u10.2))))))))))))))))))
set_option maxHeartbeats 4000000 in
set_option maxRecDepth 100000 in
theorem lX7_unlike_26 {p : Program} {l : Launch} {e : Env} {s : State} {m : MethodId} {args : Array Value} {below : List Frame} {meth : Method} {c : Code} {Q : State → Prop} (C : kc p s m args meth c cX7_unlike 11 RX7 yX7_unlike.name wsX7_unlike (some .int)) {D : va_G} {cI cT : ClassId} {mo m_product_a m_place_a m_ofX_a m_ofY_a m_step_a m_rows_a m_cell_a m_overs_a m_sure_a : Nat} (hK : va_K D vwCl (kTy cI cT) s) (hnd : ([mo, m_product_a, m_place_a, m_ofX_a, m_ofY_a, m_step_a, m_rows_a, m_cell_a, m_overs_a, m_sure_a] : List Nat).Nodup) (x1 : Int32) (x2 : Int32) (x3 : Int32) (x4 : Int32) (x5 : Int32) (x6 : Int32) (x7 : Int32) (m_isWorked : Int32) (m_lines : Int32) (m_product : Nat → Int32) (m_place : Nat → Int32) (m_ofX : Nat → Int32) (m_ofY : Nat → Int32) (m_steps : Int32) (m_step : Nat → Int32) (m_rows : Nat → Int32) (m_cell : Nat → Int32) (m_sure : Nat → Int32) (res : (Int32 × (Nat → Int32))) (hQ : ∀ (v : Int32) (m_overs : Nat → Int32) (H : Heap) (locs : List Loc) (pc : Nat) (ls : Array Slot), some (v, m_overs) = some res → va_P D vwCl [(mo, .inr (4, [.int m_isWorked, .int m_lines, .ref m_product_a, .ref m_place_a, .ref m_ofX_a, .ref m_ofY_a, .int m_steps, .ref m_step_a, .ref m_rows_a, .ref m_cell_a, .ref m_overs_a, .ref m_sure_a])), (m_product_a, .inl (cI, 16, .inl m_product)), (m_place_a, .inl (cI, 16, .inl m_place)), (m_ofX_a, .inl (cI, 16, .inl m_ofX)), (m_ofY_a, .inl (cI, 16, .inl m_ofY)), (m_step_a, .inl (cI, 5, .inl m_step)), (m_rows_a, .inl (cI, 4, .inl m_rows)), (m_cell_a, .inl (cI, 96, .inl m_cell)), (m_overs_a, .inl (cI, 29, .inl m_overs)), (m_sure_a, .inl (cI, 24, .inl m_sure))] H → va_S (fun q => q ∈ ([mo, m_product_a, m_place_a, m_ofX_a, m_ofY_a, m_step_a, m_rows_a, m_cell_a, m_overs_a, m_sure_a] : List Nat)) s.heap H locs → decode cX7_unlike pc = .ok (.ireturn, 1) → W p l e rmX7_unlike s m args below meth c H locs 0 0 Q (F0 m pc ls [.int v])) (kE : Int32 → (Nat → Int32) → Option (Int32 × (Nat → Int32))) (hE : ∀ (y8 : Int32) (m_overs : Nat → Int32), kE y8 m_overs = some res → ∀ (H : Heap) (locs : List Loc), va_P D vwCl [(mo, .inr (4, [.int m_isWorked, .int m_lines, .ref m_product_a, .ref m_place_a, .ref m_ofX_a, .ref m_ofY_a, .int m_steps, .ref m_step_a, .ref m_rows_a, .ref m_cell_a, .ref m_overs_a, .ref m_sure_a])), (m_product_a, .inl (cI, 16, .inl m_product)), (m_place_a, .inl (cI, 16, .inl m_place)), (m_ofX_a, .inl (cI, 16, .inl m_ofX)), (m_ofY_a, .inl (cI, 16, .inl m_ofY)), (m_step_a, .inl (cI, 5, .inl m_step)), (m_rows_a, .inl (cI, 4, .inl m_rows)), (m_cell_a, .inl (cI, 96, .inl m_cell)), (m_overs_a, .inl (cI, 29, .inl m_overs)), (m_sure_a, .inl (cI, 24, .inl m_sure))] H → va_S (fun q => q ∈ ([mo, m_product_a, m_place_a, m_ofX_a, m_ofY_a, m_step_a, m_rows_a, m_cell_a, m_overs_a, m_sure_a] : List Nat)) s.heap H locs → ∀ (ls : Array Slot), lv_has ls 11 [(0, .ref mo), (1, .int x1), (2, .int x2), (3, .int x3), (4, .int x4), (5, .int x5), (6, .int x6), (7, .int x7), (8, .int y8)] → W p l e rmX7_unlike s m args below meth c H locs 0 0 Q (F0 m 91 ls [])) : ∀ (n : Nat), ∀ (x8 : Int32) (x9 : Int32) (m_overs : Nat → Int32), mlX7_unlike_26 x1 x2 x3 x4 x7 m_cell kE n x8 x9 m_overs = some res → ∀ (H : Heap) (locs : List Loc), va_P D vwCl [(mo, .inr (4, [.int m_isWorked, .int m_lines, .ref m_product_a, .ref m_place_a, .ref m_ofX_a, .ref m_ofY_a, .int m_steps, .ref m_step_a, .ref m_rows_a, .ref m_cell_a, .ref m_overs_a, .ref m_sure_a])), (m_product_a, .inl (cI, 16, .inl m_product)), (m_place_a, .inl (cI, 16, .inl m_place)), (m_ofX_a, .inl (cI, 16, .inl m_ofX)), (m_ofY_a, .inl (cI, 16, .inl m_ofY)), (m_step_a, .inl (cI, 5, .inl m_step)), (m_rows_a, .inl (cI, 4, .inl m_rows)), (m_cell_a, .inl (cI, 96, .inl m_cell)), (m_overs_a, .inl (cI, 29, .inl m_overs)), (m_sure_a, .inl (cI, 24, .inl m_sure))] H → va_S (fun q => q ∈ ([mo, m_product_a, m_place_a, m_ofX_a, m_ofY_a, m_step_a, m_rows_a, m_cell_a, m_overs_a, m_sure_a] : List Nat)) s.heap H locs → ∀ (ls : Array Slot), lv_has ls 11 [(0, .ref mo), (1, .int x1), (2, .int x2), (3, .int x3), (4, .int x4), (5, .int x5), (6, .int x6), (7, .int x7), (8, .int x8), (9, .int x9)] → W p l e rmX7_unlike s m args below meth c H locs 0 0 Q (F0 m 26 ls []) := by
  have C0 := C
  obtain ⟨hx, hb, hml, hown, hts, hr, hlk, hnm⟩ := C0
  intro n
  induction n with
  | zero => intro _ _ _ h; exact md_x h
  | succ n ih =>
    intro x8 x9 m_overs h H locs hP hS ls hl
    rw [mlX7_unlike_26] at h
    refine lv_iload hx hb dX7_unlike_26 (lv_at hl 9 rfl) ?_
    refine lv_iconst (v := 3) hx hb dX7_unlike_28 (by decide) ?_
    refine lv_icmp_ge (tgt := 91) hx hb dX7_unlike_29 (by decide) (fun c3 => ?_) (fun c3 => ?_)
    · replace h := md_t c3 h
      exact hE x8 m_overs h _ _ hP hS ls (lv_sub hl [0, 1, 2, 3, 4, 5, 6, 7, 8] rfl)
    replace h := md_f c3 h
    refine lv_iload hx hb dX7_unlike_32 (lv_at hl 8 rfl) ?_
    refine lv_if_eq (tgt := 91) hx hb dX7_unlike_34 (by decide) (fun c4 => ?_) (fun c4 => ?_)
    · replace h := md_t c4 h
      exact hE x8 m_overs h _ _ hP hS ls (lv_sub hl [0, 1, 2, 3, 4, 5, 6, 7, 8] rfl)
    replace h := md_f c4 h
    refine lv_aload_n hx hb dX7_unlike_37 rfl (lv_at hl 0 rfl) ?_
    refine va_get (D := D) (ci := 4) (v := .ref m_cell_a) (C := RX7) (T := TX7) (N := 12) hx hb hts wi_X7_unlike_X7 hown hK hP 0 rfl rfl 9 (by decide) (hts _ wm_X7_unlike_1) (fun _ h9 => h9) rfl dX7_unlike_38 ?_
    refine lv_iload_n hx hb dX7_unlike_41 rfl (lv_at hl 1 rfl) ?_
    refine lv_iload hx hb dX7_unlike_42 (lv_at hl 7 rfl) ?_
    refine lv_iload hx hb dX7_unlike_44 (lv_at hl 9 rfl) ?_
    obtain ⟨u5, hu5, h⟩ := md_b h
    refine kS C (ctX7_at l  hu5) gX7_unlike_X7_at rfl kdX7_at ⟨rfl, rfl⟩ ⟨by decide, by decide⟩ kT_blind (fun _ _ _ => trivial) rfl hl [.ref m_cell_a] rfl (Nat.le_of_ble_eq_true rfl) dX7_unlike_46 ⟨by decide, by decide⟩ ?_
    obtain ⟨hin6, h⟩ := md_g h
    refine va_iald hx hb hK hP 7 0 rfl rfl hin6 dX7_unlike_49 ?_
    refine lv_topi (fun x10_7 ex10_7 => ?_)
    replace h := md_le ex10_7 h
    refine lv_istore (lv' := [(10, .int x10_7), (0, .ref mo), (1, .int x1), (2, .int x2), (3, .int x3), (4, .int x4), (5, .int x5), (6, .int x6), (7, .int x7), (8, .int x8), (9, .int x9)]) hx hb dX7_unlike_50 hl (by decide) rfl (fun ls hl => ?_)
    refine lv_iload hx hb dX7_unlike_52 (lv_at hl 0 rfl) ?_
    obtain ⟨kJ83, ekJ83, h⟩ := md_jo h
    have KJ83 : ∀ (z0_83 : Int32) (m_overs_83 : Nat → Int32), kJ83 z0_83 m_overs_83 = some res → ∀ (H : Heap) (locs : List Loc), va_P D vwCl [(mo, .inr (4, [.int m_isWorked, .int m_lines, .ref m_product_a, .ref m_place_a, .ref m_ofX_a, .ref m_ofY_a, .int m_steps, .ref m_step_a, .ref m_rows_a, .ref m_cell_a, .ref m_overs_a, .ref m_sure_a])), (m_product_a, .inl (cI, 16, .inl m_product)), (m_place_a, .inl (cI, 16, .inl m_place)), (m_ofX_a, .inl (cI, 16, .inl m_ofX)), (m_ofY_a, .inl (cI, 16, .inl m_ofY)), (m_step_a, .inl (cI, 5, .inl m_step)), (m_rows_a, .inl (cI, 4, .inl m_rows)), (m_cell_a, .inl (cI, 96, .inl m_cell)), (m_overs_a, .inl (cI, 29, .inl m_overs_83)), (m_sure_a, .inl (cI, 24, .inl m_sure))] H → va_S (fun q => q ∈ ([mo, m_product_a, m_place_a, m_ofX_a, m_ofY_a, m_step_a, m_rows_a, m_cell_a, m_overs_a, m_sure_a] : List Nat)) s.heap H locs → ∀ (ls : Array Slot), lv_has ls 11 [(0, .ref mo), (1, .int x1), (2, .int x2), (3, .int x3), (4, .int x4), (5, .int x5), (6, .int x6), (7, .int x7), (9, .int x9)] → W p l e rmX7_unlike s m args below meth c H locs 0 0 Q (F0 m 83 ls [.int z0_83]) := by
      intro z0_83 m_overs_83 h H locs hP hS ls hl
      rw [ekJ83] at h
      refine lv_istore (lv' := [(8, .int z0_83), (0, .ref mo), (1, .int x1), (2, .int x2), (3, .int x3), (4, .int x4), (5, .int x5), (6, .int x6), (7, .int x7), (9, .int x9)]) hx hb dX7_unlike_83 hl (by decide) rfl (fun ls hl => ?_)
      obtain ⟨x9_8, ex9_8⟩ : ∃ y : Int32, y = (x9 + (1 : Int32)) := ⟨_, rfl⟩
      replace h := md_le ex9_8 h
      refine lv_iinc (v := x9_8) (lv' := [(9, .int x9_8), (8, .int z0_83), (0, .ref mo), (1, .int x1), (2, .int x2), (3, .int x3), (4, .int x4), (5, .int x5), (6, .int x6), (7, .int x7)]) hx hb dX7_unlike_85 hl (k := 9) rfl (by rw [ex9_8]; rfl) (by decide) rfl (fun ls hl => ?_)
      refine lv_goto (tgt := 26) hx hb dX7_unlike_88 (by decide) ?_
      exact ih z0_83 x9_8 m_overs_83 h _ _ hP hS ls (lv_sub hl [2, 3, 4, 5, 6, 7, 8, 9, 1, 0] rfl)
    clear ekJ83
    obtain ⟨kJ78, ekJ78, h⟩ := md_jo h
    have KJ78 : ∀ (m_overs_78 : Nat → Int32), kJ78 m_overs_78 = some res → ∀ (H : Heap) (locs : List Loc), va_P D vwCl [(mo, .inr (4, [.int m_isWorked, .int m_lines, .ref m_product_a, .ref m_place_a, .ref m_ofX_a, .ref m_ofY_a, .int m_steps, .ref m_step_a, .ref m_rows_a, .ref m_cell_a, .ref m_overs_a, .ref m_sure_a])), (m_product_a, .inl (cI, 16, .inl m_product)), (m_place_a, .inl (cI, 16, .inl m_place)), (m_ofX_a, .inl (cI, 16, .inl m_ofX)), (m_ofY_a, .inl (cI, 16, .inl m_ofY)), (m_step_a, .inl (cI, 5, .inl m_step)), (m_rows_a, .inl (cI, 4, .inl m_rows)), (m_cell_a, .inl (cI, 96, .inl m_cell)), (m_overs_a, .inl (cI, 29, .inl m_overs_78)), (m_sure_a, .inl (cI, 24, .inl m_sure))] H → va_S (fun q => q ∈ ([mo, m_product_a, m_place_a, m_ofX_a, m_ofY_a, m_step_a, m_rows_a, m_cell_a, m_overs_a, m_sure_a] : List Nat)) s.heap H locs → ∀ (ls : Array Slot), lv_has ls 11 [(0, .ref mo), (1, .int x1), (2, .int x2), (3, .int x3), (4, .int x4), (5, .int x5), (6, .int x6), (7, .int x7), (9, .int x9)] → W p l e rmX7_unlike s m args below meth c H locs 0 0 Q (F0 m 78 ls []) := by
      intro m_overs_78 h H locs hP hS ls hl
      rw [ekJ78] at h
      refine lv_iconst (v := 1) hx hb dX7_unlike_78 (by decide) ?_
      refine lv_goto (tgt := 83) hx hb dX7_unlike_79 (by decide) ?_
      exact KJ83 (1 : Int32) m_overs_78 h _ _ hP hS ls (lv_sub hl [0, 1, 2, 3, 4, 5, 6, 7, 8] rfl)
    clear ekJ78
    refine lv_if_eq (tgt := 78) hx hb dX7_unlike_54 (by decide) (fun c9 => ?_) (fun c9 => ?_)
    · replace h := md_t c9 h
      exact KJ78 m_overs h _ _ hP hS ls (lv_sub hl [1, 2, 3, 4, 5, 6, 7, 8, 10] rfl)
    replace h := md_f c9 h
    refine lv_iload hx hb dX7_unlike_57 (lv_at hl 0 rfl) ?_
    refine lv_aload_n hx hb dX7_unlike_59 rfl (lv_at hl 1 rfl) ?_
    refine lv_iload_n hx hb dX7_unlike_60 rfl (lv_at hl 3 rfl) ?_
    refine lv_iload_n hx hb dX7_unlike_61 rfl (lv_at hl 4 rfl) ?_
    refine lv_iload hx hb dX7_unlike_62 (lv_at hl 5 rfl) ?_
    refine lv_iload hx hb dX7_unlike_64 (lv_at hl 8 rfl) ?_
    refine lv_iadd hx hb dX7_unlike_66 ?_
    refine lv_iload hx hb dX7_unlike_67 (lv_at hl 10 rfl) ?_
    obtain ⟨u10, hu10, h⟩ := md_b h
    refine kVx C (ctX7_tableAt l (nd_sub hnd [0, 1, 2, 3, 4, 5, 6, 7, 8, 9] (by decide) rfl) hu10) gX7_unlike_X7_tableAt rfl kdvX7_tableAt ⟨rfl, rfl⟩ ⟨by decide, by decide⟩ kW_blind (va_recv hK hP (ci := 4) (q0 := 0) rfl rfl) (kW_use hK (hP.sub (ws' := [(mo, .inr (4, [.int m_isWorked, .int m_lines, .ref m_product_a, .ref m_place_a, .ref m_ofX_a, .ref m_ofY_a, .int m_steps, .ref m_step_a, .ref m_rows_a, .ref m_cell_a, .ref m_overs_a, .ref m_sure_a])), (m_product_a, .inl (cI, 16, .inl m_product)), (m_place_a, .inl (cI, 16, .inl m_place)), (m_ofX_a, .inl (cI, 16, .inl m_ofX)), (m_ofY_a, .inl (cI, 16, .inl m_ofY)), (m_step_a, .inl (cI, 5, .inl m_step)), (m_rows_a, .inl (cI, 4, .inl m_rows)), (m_cell_a, .inl (cI, 96, .inl m_cell)), (m_overs_a, .inl (cI, 29, .inl m_overs)), (m_sure_a, .inl (cI, 24, .inl m_sure))]) [0, 1, 2, 3, 4, 5, 6, 7, 8, 9] rfl) kL_no) rfl hl [.int x10_7] rfl (Nat.le_of_ble_eq_true rfl) dX7_unlike_69 ⟨by decide, by decide⟩ hS (mem_sub [0, 1, 2, 3, 4, 5, 6, 7, 8, 9] rfl) (fun H1 locs hP1 hk1 hS => ?_)
    replace hP : va_P D vwCl [(mo, .inr (4, [.int m_isWorked, .int m_lines, .ref m_product_a, .ref m_place_a, .ref m_ofX_a, .ref m_ofY_a, .int m_steps, .ref m_step_a, .ref m_rows_a, .ref m_cell_a, .ref m_overs_a, .ref m_sure_a])), (m_product_a, .inl (cI, 16, .inl m_product)), (m_place_a, .inl (cI, 16, .inl m_place)), (m_ofX_a, .inl (cI, 16, .inl m_ofX)), (m_ofY_a, .inl (cI, 16, .inl m_ofY)), (m_step_a, .inl (cI, 5, .inl m_step)), (m_rows_a, .inl (cI, 4, .inl m_rows)), (m_cell_a, .inl (cI, 96, .inl m_cell)), (m_overs_a, .inl (cI, 29, .inl u10.2)), (m_sure_a, .inl (cI, 24, .inl m_sure))] H1 := kjoin hnd rfl hP hP1 hk1 [0, 1, 2, 3, 4, 5, 6, 7, 8, 9] rfl [(true, 0), (true, 1), (true, 2), (true, 3), (true, 4), (true, 5), (true, 6), (true, 7), (true, 8), (true, 9)] rfl rfl
    clear hP1 hk1
    generalize H1 = H at hP hS ⊢
    obtain ⟨u11, hu11, h⟩ := md_b h
    refine kS C (ctX7_agree l  hu11) gX7_unlike_X7_agree rfl kdX7_agree ⟨rfl, rfl⟩ ⟨by decide, by decide⟩ kT_blind (fun _ _ _ => trivial) rfl hl [] rfl (Nat.le_of_ble_eq_true rfl) dX7_unlike_72 ⟨by decide, by decide⟩ ?_
    refine lv_if_eq (tgt := 82) hx hb dX7_unlike_75 (by decide) (fun c12 => ?_) (fun c12 => ?_)
    · replace h := md_t c12 h
      refine lv_iconst (v := 0) hx hb dX7_unlike_82 (by decide) ?_
      exact KJ83 (0 : Int32) u10.2 h _ _ hP hS ls (lv_sub hl [1, 2, 3, 4, 5, 6, 7, 8, 10] rfl)
    replace h := md_f c12 h
    exact KJ78 u10.2 h _ _ hP hS ls (lv_sub hl [1, 2, 3, 4, 5, 6, 7, 8, 10] rfl)
def mlX7_unlike_9 (x1 : Int32) (x2 : Int32) (x3 : Int32) (x4 : Int32) (m_rows : Nat → Int32) (m_cell : Nat → Int32) (kE : Int32 → Int32 → (Nat → Int32) → Option (Int32 × (Nat → Int32))) : Nat → Int32 → Int32 → Int32 → (Nat → Int32) → Option (Int32 × (Nat → Int32))
  | 0, _, _, _, _ => none
  | n + 1, x5, x6, x7, m_overs => (if x1 < 0 ∨ 4 ≤ (Int32.toNatClampNeg x1) then none else (if (m_rows (Int32.toNatClampNeg x1)) ≤ x7 then (kE x5 x6 m_overs) else (mlX7_unlike_26 x1 x2 x3 x4 x7 m_cell (fun (y8_91 : Int32) (m_overs_91 : Nat → Int32) => (md_jn (fun (z1_103 : Int32) => (md_let (x5 + z1_103) (fun (x5_13 : Int32) => (md_jn (fun (z0_118 : Int32) => (md_let (x7 + (1 : Int32)) (fun (x7_14 : Int32) => (mlX7_unlike_9 x1 x2 x3 x4 m_rows m_cell kE n x5_13 z0_118 x7_14 m_overs_91)))) (fun kJ118 => (if y8_91 = 0 then (kJ118 x7) else (kJ118 x6))))))) (fun kJ103 => (if y8_91 = 0 then (kJ103 (1 : Int32)) else (kJ103 (0 : Int32)))))) kN (1 : Int32) (0 : Int32) m_overs)))
set_option maxHeartbeats 4000000 in
set_option maxRecDepth 100000 in
theorem lX7_unlike_9 {p : Program} {l : Launch} {e : Env} {s : State} {m : MethodId} {args : Array Value} {below : List Frame} {meth : Method} {c : Code} {Q : State → Prop} (C : kc p s m args meth c cX7_unlike 11 RX7 yX7_unlike.name wsX7_unlike (some .int)) {D : va_G} {cI cT : ClassId} {mo m_product_a m_place_a m_ofX_a m_ofY_a m_step_a m_rows_a m_cell_a m_overs_a m_sure_a : Nat} (hK : va_K D vwCl (kTy cI cT) s) (hnd : ([mo, m_product_a, m_place_a, m_ofX_a, m_ofY_a, m_step_a, m_rows_a, m_cell_a, m_overs_a, m_sure_a] : List Nat).Nodup) (x1 : Int32) (x2 : Int32) (x3 : Int32) (x4 : Int32) (m_isWorked : Int32) (m_lines : Int32) (m_product : Nat → Int32) (m_place : Nat → Int32) (m_ofX : Nat → Int32) (m_ofY : Nat → Int32) (m_steps : Int32) (m_step : Nat → Int32) (m_rows : Nat → Int32) (m_cell : Nat → Int32) (m_sure : Nat → Int32) (res : (Int32 × (Nat → Int32))) (hQ : ∀ (v : Int32) (m_overs : Nat → Int32) (H : Heap) (locs : List Loc) (pc : Nat) (ls : Array Slot), some (v, m_overs) = some res → va_P D vwCl [(mo, .inr (4, [.int m_isWorked, .int m_lines, .ref m_product_a, .ref m_place_a, .ref m_ofX_a, .ref m_ofY_a, .int m_steps, .ref m_step_a, .ref m_rows_a, .ref m_cell_a, .ref m_overs_a, .ref m_sure_a])), (m_product_a, .inl (cI, 16, .inl m_product)), (m_place_a, .inl (cI, 16, .inl m_place)), (m_ofX_a, .inl (cI, 16, .inl m_ofX)), (m_ofY_a, .inl (cI, 16, .inl m_ofY)), (m_step_a, .inl (cI, 5, .inl m_step)), (m_rows_a, .inl (cI, 4, .inl m_rows)), (m_cell_a, .inl (cI, 96, .inl m_cell)), (m_overs_a, .inl (cI, 29, .inl m_overs)), (m_sure_a, .inl (cI, 24, .inl m_sure))] H → va_S (fun q => q ∈ ([mo, m_product_a, m_place_a, m_ofX_a, m_ofY_a, m_step_a, m_rows_a, m_cell_a, m_overs_a, m_sure_a] : List Nat)) s.heap H locs → decode cX7_unlike pc = .ok (.ireturn, 1) → W p l e rmX7_unlike s m args below meth c H locs 0 0 Q (F0 m pc ls [.int v])) (kE : Int32 → Int32 → (Nat → Int32) → Option (Int32 × (Nat → Int32))) (hE : ∀ (y5 : Int32) (y6 : Int32) (m_overs : Nat → Int32), kE y5 y6 m_overs = some res → ∀ (H : Heap) (locs : List Loc), va_P D vwCl [(mo, .inr (4, [.int m_isWorked, .int m_lines, .ref m_product_a, .ref m_place_a, .ref m_ofX_a, .ref m_ofY_a, .int m_steps, .ref m_step_a, .ref m_rows_a, .ref m_cell_a, .ref m_overs_a, .ref m_sure_a])), (m_product_a, .inl (cI, 16, .inl m_product)), (m_place_a, .inl (cI, 16, .inl m_place)), (m_ofX_a, .inl (cI, 16, .inl m_ofX)), (m_ofY_a, .inl (cI, 16, .inl m_ofY)), (m_step_a, .inl (cI, 5, .inl m_step)), (m_rows_a, .inl (cI, 4, .inl m_rows)), (m_cell_a, .inl (cI, 96, .inl m_cell)), (m_overs_a, .inl (cI, 29, .inl m_overs)), (m_sure_a, .inl (cI, 24, .inl m_sure))] H → va_S (fun q => q ∈ ([mo, m_product_a, m_place_a, m_ofX_a, m_ofY_a, m_step_a, m_rows_a, m_cell_a, m_overs_a, m_sure_a] : List Nat)) s.heap H locs → ∀ (ls : Array Slot), lv_has ls 11 [(5, .int y5), (6, .int y6)] → W p l e rmX7_unlike s m args below meth c H locs 0 0 Q (F0 m 126 ls [])) : ∀ (n : Nat), ∀ (x5 : Int32) (x6 : Int32) (x7 : Int32) (m_overs : Nat → Int32), mlX7_unlike_9 x1 x2 x3 x4 m_rows m_cell kE n x5 x6 x7 m_overs = some res → ∀ (H : Heap) (locs : List Loc), va_P D vwCl [(mo, .inr (4, [.int m_isWorked, .int m_lines, .ref m_product_a, .ref m_place_a, .ref m_ofX_a, .ref m_ofY_a, .int m_steps, .ref m_step_a, .ref m_rows_a, .ref m_cell_a, .ref m_overs_a, .ref m_sure_a])), (m_product_a, .inl (cI, 16, .inl m_product)), (m_place_a, .inl (cI, 16, .inl m_place)), (m_ofX_a, .inl (cI, 16, .inl m_ofX)), (m_ofY_a, .inl (cI, 16, .inl m_ofY)), (m_step_a, .inl (cI, 5, .inl m_step)), (m_rows_a, .inl (cI, 4, .inl m_rows)), (m_cell_a, .inl (cI, 96, .inl m_cell)), (m_overs_a, .inl (cI, 29, .inl m_overs)), (m_sure_a, .inl (cI, 24, .inl m_sure))] H → va_S (fun q => q ∈ ([mo, m_product_a, m_place_a, m_ofX_a, m_ofY_a, m_step_a, m_rows_a, m_cell_a, m_overs_a, m_sure_a] : List Nat)) s.heap H locs → ∀ (ls : Array Slot), lv_has ls 11 [(0, .ref mo), (1, .int x1), (2, .int x2), (3, .int x3), (4, .int x4), (5, .int x5), (6, .int x6), (7, .int x7)] → W p l e rmX7_unlike s m args below meth c H locs 0 0 Q (F0 m 9 ls []) := by
  have C0 := C
  obtain ⟨hx, hb, hml, hown, hts, hr, hlk, hnm⟩ := C0
  intro n
  induction n with
  | zero => intro _ _ _ _ h; exact md_x h
  | succ n ih =>
    intro x5 x6 x7 m_overs h H locs hP hS ls hl
    rw [mlX7_unlike_9] at h
    refine lv_iload hx hb dX7_unlike_9 (lv_at hl 7 rfl) ?_
    refine lv_aload_n hx hb dX7_unlike_11 rfl (lv_at hl 0 rfl) ?_
    refine va_get (D := D) (ci := 4) (v := .ref m_rows_a) (C := RX7) (T := TX7) (N := 12) hx hb hts wi_X7_unlike_X7 hown hK hP 0 rfl rfl 8 (by decide) (hts _ wm_X7_unlike_0) (fun _ h9 => h9) rfl dX7_unlike_12 ?_
    refine lv_iload_n hx hb dX7_unlike_15 rfl (lv_at hl 1 rfl) ?_
    obtain ⟨hin1, h⟩ := md_g h
    refine va_iald hx hb hK hP 6 0 rfl rfl hin1 dX7_unlike_16 ?_
    refine lv_icmp_ge (tgt := 126) hx hb dX7_unlike_17 (by decide) (fun c2 => ?_) (fun c2 => ?_)
    · replace h := md_t c2 h
      exact hE x5 x6 m_overs h _ _ hP hS ls (lv_sub hl [5, 6] rfl)
    replace h := md_f c2 h
    refine lv_iconst (v := 1) hx hb dX7_unlike_20 (by decide) ?_
    refine lv_istore (lv' := [(8, .int (1 : Int32)), (0, .ref mo), (1, .int x1), (2, .int x2), (3, .int x3), (4, .int x4), (5, .int x5), (6, .int x6), (7, .int x7)]) hx hb dX7_unlike_21 hl (by decide) rfl (fun ls hl => ?_)
    refine lv_iconst (v := 0) hx hb dX7_unlike_23 (by decide) ?_
    refine lv_istore (lv' := [(9, .int (0 : Int32)), (8, .int (1 : Int32)), (0, .ref mo), (1, .int x1), (2, .int x2), (3, .int x3), (4, .int x4), (5, .int x5), (6, .int x6), (7, .int x7)]) hx hb dX7_unlike_24 hl (by decide) rfl (fun ls hl => ?_)
    refine lX7_unlike_26 (mo := mo) (m_product_a := m_product_a) (m_place_a := m_place_a) (m_ofX_a := m_ofX_a) (m_ofY_a := m_ofY_a) (m_step_a := m_step_a) (m_rows_a := m_rows_a) (m_cell_a := m_cell_a) (m_overs_a := m_overs_a) (m_sure_a := m_sure_a) C hK hnd x1 x2 x3 x4 x5 x6 x7 m_isWorked m_lines m_product m_place m_ofX m_ofY m_steps m_step m_rows m_cell m_sure res hQ _ (fun y8_91 m_overs_91 h H locs hP hS ls hl => ?_) kN (1 : Int32) (0 : Int32) m_overs h _ _ hP hS ls (lv_sub hl [2, 3, 4, 5, 6, 7, 8, 9, 1, 0] rfl)
    refine lv_iload hx hb dX7_unlike_91 (lv_at hl 5 rfl) ?_
    refine lv_iload hx hb dX7_unlike_93 (lv_at hl 8 rfl) ?_
    obtain ⟨kJ103, ekJ103, h⟩ := md_jo h
    have KJ103 : ∀ (z1_103 : Int32), kJ103 z1_103 = some res → ∀ (H : Heap) (locs : List Loc), va_P D vwCl [(mo, .inr (4, [.int m_isWorked, .int m_lines, .ref m_product_a, .ref m_place_a, .ref m_ofX_a, .ref m_ofY_a, .int m_steps, .ref m_step_a, .ref m_rows_a, .ref m_cell_a, .ref m_overs_a, .ref m_sure_a])), (m_product_a, .inl (cI, 16, .inl m_product)), (m_place_a, .inl (cI, 16, .inl m_place)), (m_ofX_a, .inl (cI, 16, .inl m_ofX)), (m_ofY_a, .inl (cI, 16, .inl m_ofY)), (m_step_a, .inl (cI, 5, .inl m_step)), (m_rows_a, .inl (cI, 4, .inl m_rows)), (m_cell_a, .inl (cI, 96, .inl m_cell)), (m_overs_a, .inl (cI, 29, .inl m_overs_91)), (m_sure_a, .inl (cI, 24, .inl m_sure))] H → va_S (fun q => q ∈ ([mo, m_product_a, m_place_a, m_ofX_a, m_ofY_a, m_step_a, m_rows_a, m_cell_a, m_overs_a, m_sure_a] : List Nat)) s.heap H locs → ∀ (ls : Array Slot), lv_has ls 11 [(0, .ref mo), (1, .int x1), (2, .int x2), (3, .int x3), (4, .int x4), (6, .int x6), (7, .int x7), (8, .int y8_91)] → W p l e rmX7_unlike s m args below meth c H locs 0 0 Q (F0 m 103 ls [.int z1_103, .int x5]) := by
      intro z1_103 h H locs hP hS ls hl
      rw [ekJ103] at h
      refine lv_iadd hx hb dX7_unlike_103 ?_
      refine lv_topi (fun x5_13 ex5_13 => ?_)
      replace h := md_le ex5_13 h
      refine lv_istore (lv' := [(5, .int x5_13), (0, .ref mo), (1, .int x1), (2, .int x2), (3, .int x3), (4, .int x4), (6, .int x6), (7, .int x7), (8, .int y8_91)]) hx hb dX7_unlike_104 hl (by decide) rfl (fun ls hl => ?_)
      refine lv_iload hx hb dX7_unlike_106 (lv_at hl 8 rfl) ?_
      obtain ⟨kJ118, ekJ118, h⟩ := md_jo h
      have KJ118 : ∀ (z0_118 : Int32), kJ118 z0_118 = some res → ∀ (H : Heap) (locs : List Loc), va_P D vwCl [(mo, .inr (4, [.int m_isWorked, .int m_lines, .ref m_product_a, .ref m_place_a, .ref m_ofX_a, .ref m_ofY_a, .int m_steps, .ref m_step_a, .ref m_rows_a, .ref m_cell_a, .ref m_overs_a, .ref m_sure_a])), (m_product_a, .inl (cI, 16, .inl m_product)), (m_place_a, .inl (cI, 16, .inl m_place)), (m_ofX_a, .inl (cI, 16, .inl m_ofX)), (m_ofY_a, .inl (cI, 16, .inl m_ofY)), (m_step_a, .inl (cI, 5, .inl m_step)), (m_rows_a, .inl (cI, 4, .inl m_rows)), (m_cell_a, .inl (cI, 96, .inl m_cell)), (m_overs_a, .inl (cI, 29, .inl m_overs_91)), (m_sure_a, .inl (cI, 24, .inl m_sure))] H → va_S (fun q => q ∈ ([mo, m_product_a, m_place_a, m_ofX_a, m_ofY_a, m_step_a, m_rows_a, m_cell_a, m_overs_a, m_sure_a] : List Nat)) s.heap H locs → ∀ (ls : Array Slot), lv_has ls 11 [(0, .ref mo), (1, .int x1), (2, .int x2), (3, .int x3), (4, .int x4), (5, .int x5_13), (7, .int x7)] → W p l e rmX7_unlike s m args below meth c H locs 0 0 Q (F0 m 118 ls [.int z0_118]) := by
        intro z0_118 h H locs hP hS ls hl
        rw [ekJ118] at h
        refine lv_istore (lv' := [(6, .int z0_118), (0, .ref mo), (1, .int x1), (2, .int x2), (3, .int x3), (4, .int x4), (5, .int x5_13), (7, .int x7)]) hx hb dX7_unlike_118 hl (by decide) rfl (fun ls hl => ?_)
        obtain ⟨x7_14, ex7_14⟩ : ∃ y : Int32, y = (x7 + (1 : Int32)) := ⟨_, rfl⟩
        replace h := md_le ex7_14 h
        refine lv_iinc (v := x7_14) (lv' := [(7, .int x7_14), (6, .int z0_118), (0, .ref mo), (1, .int x1), (2, .int x2), (3, .int x3), (4, .int x4), (5, .int x5_13)]) hx hb dX7_unlike_120 hl (k := 7) rfl (by rw [ex7_14]; rfl) (by decide) rfl (fun ls hl => ?_)
        refine lv_goto (tgt := 9) hx hb dX7_unlike_123 (by decide) ?_
        exact ih x5_13 z0_118 x7_14 m_overs_91 h _ _ hP hS ls (lv_sub hl [2, 3, 4, 5, 6, 7, 1, 0] rfl)
      clear ekJ118
      refine lv_if_eq (tgt := 116) hx hb dX7_unlike_108 (by decide) (fun c15 => ?_) (fun c15 => ?_)
      · replace h := md_t c15 h
        refine lv_iload hx hb dX7_unlike_116 (lv_at hl 7 rfl) ?_
        exact KJ118 x7 h _ _ hP hS ls (lv_sub hl [1, 2, 3, 4, 5, 0, 7] rfl)
      replace h := md_f c15 h
      refine lv_iload hx hb dX7_unlike_111 (lv_at hl 6 rfl) ?_
      refine lv_goto (tgt := 118) hx hb dX7_unlike_113 (by decide) ?_
      exact KJ118 x6 h _ _ hP hS ls (lv_sub hl [1, 2, 3, 4, 5, 0, 7] rfl)
    clear ekJ103
    refine lv_if_eq (tgt := 102) hx hb dX7_unlike_95 (by decide) (fun c16 => ?_) (fun c16 => ?_)
    · replace h := md_t c16 h
      refine lv_iconst (v := 1) hx hb dX7_unlike_102 (by decide) ?_
      exact KJ103 (1 : Int32) h _ _ hP hS ls (lv_sub hl [0, 1, 2, 3, 4, 6, 7, 8] rfl)
    replace h := md_f c16 h
    refine lv_iconst (v := 0) hx hb dX7_unlike_98 (by decide) ?_
    refine lv_goto (tgt := 103) hx hb dX7_unlike_99 (by decide) ?_
    exact KJ103 (0 : Int32) h _ _ hP hS ls (lv_sub hl [0, 1, 2, 3, 4, 6, 7, 8] rfl)
def mX7_unlike (m_rows : Nat → Int32) (m_cell : Nat → Int32) (m_overs : Nat → Int32) (p1 : Int32) (p2 : Int32) (p3 : Int32) (p4 : Int32) : Option (Int32 × (Nat → Int32)) := (mlX7_unlike_9 p1 p2 p3 p4 m_rows m_cell (fun (y5_126 : Int32) (y6_126 : Int32) (m_overs_126 : Nat → Int32) => (some ((((100 : Int32) * y5_126) + y6_126), m_overs_126))) kN (0 : Int32) (0 : Int32) (0 : Int32) m_overs)
set_option maxHeartbeats 4000000 in
set_option maxRecDepth 100000 in
theorem bX7_unlike {p : Program} {l : Launch} {e : Env} {s : State} {m : MethodId} {args : Array Value} {below : List Frame} {meth : Method} {c : Code} {Q : State → Prop} (C : kc p s m args meth c cX7_unlike 11 RX7 yX7_unlike.name wsX7_unlike (some .int)) {D : va_G} {cI cT : ClassId} {mo m_product_a m_place_a m_ofX_a m_ofY_a m_step_a m_rows_a m_cell_a m_overs_a m_sure_a : Nat} (p1 : Int32) (p2 : Int32) (p3 : Int32) (p4 : Int32) (hK : va_K D vwCl (kTy cI cT) s) (hnd : ([mo, m_product_a, m_place_a, m_ofX_a, m_ofY_a, m_step_a, m_rows_a, m_cell_a, m_overs_a, m_sure_a] : List Nat).Nodup) (m_isWorked : Int32) (m_lines : Int32) (m_product : Nat → Int32) (m_place : Nat → Int32) (m_ofX : Nat → Int32) (m_ofY : Nat → Int32) (m_steps : Int32) (m_step : Nat → Int32) (m_rows : Nat → Int32) (m_cell : Nat → Int32) (m_overs : Nat → Int32) (m_sure : Nat → Int32) (res : (Int32 × (Nat → Int32))) (hQ : ∀ (v : Int32) (m_overs : Nat → Int32) (H : Heap) (locs : List Loc) (pc : Nat) (ls : Array Slot), some (v, m_overs) = some res → va_P D vwCl [(mo, .inr (4, [.int m_isWorked, .int m_lines, .ref m_product_a, .ref m_place_a, .ref m_ofX_a, .ref m_ofY_a, .int m_steps, .ref m_step_a, .ref m_rows_a, .ref m_cell_a, .ref m_overs_a, .ref m_sure_a])), (m_product_a, .inl (cI, 16, .inl m_product)), (m_place_a, .inl (cI, 16, .inl m_place)), (m_ofX_a, .inl (cI, 16, .inl m_ofX)), (m_ofY_a, .inl (cI, 16, .inl m_ofY)), (m_step_a, .inl (cI, 5, .inl m_step)), (m_rows_a, .inl (cI, 4, .inl m_rows)), (m_cell_a, .inl (cI, 96, .inl m_cell)), (m_overs_a, .inl (cI, 29, .inl m_overs)), (m_sure_a, .inl (cI, 24, .inl m_sure))] H → va_S (fun q => q ∈ ([mo, m_product_a, m_place_a, m_ofX_a, m_ofY_a, m_step_a, m_rows_a, m_cell_a, m_overs_a, m_sure_a] : List Nat)) s.heap H locs → decode cX7_unlike pc = .ok (.ireturn, 1) → W p l e rmX7_unlike s m args below meth c H locs 0 0 Q (F0 m pc ls [.int v])) : mX7_unlike m_rows m_cell m_overs p1 p2 p3 p4 = some res → ∀ (H : Heap) (locs : List Loc), va_P D vwCl [(mo, .inr (4, [.int m_isWorked, .int m_lines, .ref m_product_a, .ref m_place_a, .ref m_ofX_a, .ref m_ofY_a, .int m_steps, .ref m_step_a, .ref m_rows_a, .ref m_cell_a, .ref m_overs_a, .ref m_sure_a])), (m_product_a, .inl (cI, 16, .inl m_product)), (m_place_a, .inl (cI, 16, .inl m_place)), (m_ofX_a, .inl (cI, 16, .inl m_ofX)), (m_ofY_a, .inl (cI, 16, .inl m_ofY)), (m_step_a, .inl (cI, 5, .inl m_step)), (m_rows_a, .inl (cI, 4, .inl m_rows)), (m_cell_a, .inl (cI, 96, .inl m_cell)), (m_overs_a, .inl (cI, 29, .inl m_overs)), (m_sure_a, .inl (cI, 24, .inl m_sure))] H → va_S (fun q => q ∈ ([mo, m_product_a, m_place_a, m_ofX_a, m_ofY_a, m_step_a, m_rows_a, m_cell_a, m_overs_a, m_sure_a] : List Nat)) s.heap H locs → ∀ (ls : Array Slot), lv_has ls 11 [(0, .ref mo), (1, .int p1), (2, .int p2), (3, .int p3), (4, .int p4)] → W p l e rmX7_unlike s m args below meth c H locs 0 0 Q (F0 m 0 ls []) := by
  intro h H locs hP hS ls hl
  have C0 := C
  obtain ⟨hx, hb, hml, hown, hts, hr, hlk, hnm⟩ := C0
  rw [mX7_unlike] at h
  refine lv_iconst (v := 0) hx hb dX7_unlike_0 (by decide) ?_
  refine lv_istore (lv' := [(5, .int (0 : Int32)), (0, .ref mo), (1, .int p1), (2, .int p2), (3, .int p3), (4, .int p4)]) hx hb dX7_unlike_1 hl (by decide) rfl (fun ls hl => ?_)
  refine lv_iconst (v := 0) hx hb dX7_unlike_3 (by decide) ?_
  refine lv_istore (lv' := [(6, .int (0 : Int32)), (5, .int (0 : Int32)), (0, .ref mo), (1, .int p1), (2, .int p2), (3, .int p3), (4, .int p4)]) hx hb dX7_unlike_4 hl (by decide) rfl (fun ls hl => ?_)
  refine lv_iconst (v := 0) hx hb dX7_unlike_6 (by decide) ?_
  refine lv_istore (lv' := [(7, .int (0 : Int32)), (6, .int (0 : Int32)), (5, .int (0 : Int32)), (0, .ref mo), (1, .int p1), (2, .int p2), (3, .int p3), (4, .int p4)]) hx hb dX7_unlike_7 hl (by decide) rfl (fun ls hl => ?_)
  refine lX7_unlike_9 (mo := mo) (m_product_a := m_product_a) (m_place_a := m_place_a) (m_ofX_a := m_ofX_a) (m_ofY_a := m_ofY_a) (m_step_a := m_step_a) (m_rows_a := m_rows_a) (m_cell_a := m_cell_a) (m_overs_a := m_overs_a) (m_sure_a := m_sure_a) C hK hnd p1 p2 p3 p4 m_isWorked m_lines m_product m_place m_ofX m_ofY m_steps m_step m_rows m_cell m_sure res hQ _ (fun y5_126 y6_126 m_overs_126 h H locs hP hS ls hl => ?_) kN (0 : Int32) (0 : Int32) (0 : Int32) m_overs h _ _ hP hS ls (lv_sub hl [3, 4, 5, 6, 7, 2, 1, 0] rfl)
  refine lv_bipush (v := 100) hx hb dX7_unlike_126 (by decide) ?_
  refine lv_iload hx hb dX7_unlike_128 (lv_at hl 0 rfl) ?_
  refine lv_imul hx hb dX7_unlike_130 ?_
  refine lv_iload hx hb dX7_unlike_131 (lv_at hl 1 rfl) ?_
  refine lv_iadd hx hb dX7_unlike_133 ?_
  exact hQ (((100 : Int32) * y5_126) + y6_126) m_overs_126 H locs 134 ls h hP hS dX7_unlike_134
set_option maxHeartbeats 4000000 in
theorem ctX7_unlike (l : Launch) {D : va_G} {cI cT : ClassId} {mo m_product_a m_place_a m_ofX_a m_ofY_a m_step_a m_rows_a m_cell_a m_overs_a m_sure_a : Nat} {m_isWorked : Int32} {m_lines : Int32} {m_product : Nat → Int32} {m_place : Nat → Int32} {m_ofX : Nat → Int32} {m_ofY : Nat → Int32} {m_steps : Int32} {m_step : Nat → Int32} {m_rows : Nat → Int32} {m_cell : Nat → Int32} {m_overs : Nat → Int32} {m_sure : Nat → Int32} {p1 : Int32} {p2 : Int32} {p3 : Int32} {p4 : Int32} {res : (Int32 × (Nat → Int32))} (hnd : ([mo, m_product_a, m_place_a, m_ofX_a, m_ofY_a, m_step_a, m_rows_a, m_cell_a, m_overs_a, m_sure_a] : List Nat).Nodup) (hm : mX7_unlike m_rows m_cell m_overs p1 p2 p3 p4 = some res) : Met l yX7_unlike wsX7_unlike rmX7_unlike (va_Pc [.ref mo, .int p1, .int p2, .int p3, .int p4] (kW D cI cT [(mo, .inr (4, [.int m_isWorked, .int m_lines, .ref m_product_a, .ref m_place_a, .ref m_ofX_a, .ref m_ofY_a, .int m_steps, .ref m_step_a, .ref m_rows_a, .ref m_cell_a, .ref m_overs_a, .ref m_sure_a])), (m_product_a, .inl (cI, 16, .inl m_product)), (m_place_a, .inl (cI, 16, .inl m_place)), (m_ofX_a, .inl (cI, 16, .inl m_ofX)), (m_ofY_a, .inl (cI, 16, .inl m_ofY)), (m_step_a, .inl (cI, 5, .inl m_step)), (m_rows_a, .inl (cI, 4, .inl m_rows)), (m_cell_a, .inl (cI, 96, .inl m_cell)), (m_overs_a, .inl (cI, 29, .inl m_overs)), (m_sure_a, .inl (cI, 24, .inl m_sure))] none (fun q => q ∈ ([mo, m_product_a, m_place_a, m_ofX_a, m_ofY_a, m_step_a, m_rows_a, m_cell_a, m_overs_a, m_sure_a] : List Nat)))) (kX (some (.int res.1)) D [(mo, .inr (4, [.int m_isWorked, .int m_lines, .ref m_product_a, .ref m_place_a, .ref m_ofX_a, .ref m_ofY_a, .int m_steps, .ref m_step_a, .ref m_rows_a, .ref m_cell_a, .ref m_overs_a, .ref m_sure_a])), (m_product_a, .inl (cI, 16, .inl m_product)), (m_place_a, .inl (cI, 16, .inl m_place)), (m_ofX_a, .inl (cI, 16, .inl m_ofX)), (m_ofY_a, .inl (cI, 16, .inl m_ofY)), (m_step_a, .inl (cI, 5, .inl m_step)), (m_rows_a, .inl (cI, 4, .inl m_rows)), (m_cell_a, .inl (cI, 96, .inl m_cell)), (m_overs_a, .inl (cI, 29, .inl res.2)), (m_sure_a, .inl (cI, 24, .inl m_sure))] (fun q => q ∈ ([mo, m_product_a, m_place_a, m_ofX_a, m_ofY_a, m_step_a, m_rows_a, m_cell_a, m_overs_a, m_sure_a] : List Nat))) 0 0 (fun q => q ∈ ([mo, m_product_a, m_place_a, m_ofX_a, m_ofY_a, m_step_a, m_rows_a, m_cell_a, m_overs_a, m_sure_a] : List Nat)) :=
  km (by decide) rfl (Nat.le_of_ble_eq_true rfl) (fun p e s m below meth c ls C hB hl => bX7_unlike C p1 p2 p3 p4 hB.1 hnd m_isWorked m_lines m_product m_place m_ofX m_ofY m_steps m_step m_rows m_cell m_overs m_sure res (fun v m_overs1 H locs pc ls h hP hS hd => by obtain rfl := Option.some.inj h; exact kx_i C hP hS hd) hm s.heap [] hB.2.1 va_S.rf ls hl)
theorem wm_X7_fits_0 : Cond.fieldLink RX7 25 "SixtyTabletModel" "rows" "[I" ∈ wsX7_fits := by decide +kernel
theorem wi_X7_fits_X7 : ∀ w ∈ wsX70, w ∈ wsX7_fits := by decide +kernel
theorem kdvX7_fits : yX7_fits.cls = RX7 ∧ yX7_fits.cls ≠ "java/lang/invoke/MethodHandle" ∧ yX7_fits.cls ≠ "java/lang/invoke/VarHandle" ∧ (parseMethodDescriptor yX7_fits.desc).map (fun d => d.parameters.length) = some 2 := by decide +kernel
abbrev rmX7_fits : Room := { frames := 1, cells := 0, slots := 0, locals := 20 }
def mX7_fits (m_rows : Nat → Int32) (p1 : Int32) (p2 : Int32) : Option Int32 := (Option.bind (mX7_firstOf p2) (fun u1 => (if p1 < 0 ∨ 4 ≤ (Int32.toNatClampNeg p1) then none else (Option.bind (mX7_kindOf p2) (fun u3 => (Option.bind (mX7_rowsOf u3) (fun u4 => (if u4 < (u1 + (m_rows (Int32.toNatClampNeg p1))) then (some (0 : Int32)) else (some (1 : Int32))))))))))
set_option maxHeartbeats 4000000 in
set_option maxRecDepth 100000 in
theorem bX7_fits {p : Program} {l : Launch} {e : Env} {s : State} {m : MethodId} {args : Array Value} {below : List Frame} {meth : Method} {c : Code} {Q : State → Prop} (C : kc p s m args meth c cX7_fits 3 RX7 yX7_fits.name wsX7_fits (some .boolean)) {D : va_G} {cI cT : ClassId} {mo m_product_a m_place_a m_ofX_a m_ofY_a m_step_a m_rows_a m_cell_a m_overs_a m_sure_a : Nat} (p1 : Int32) (p2 : Int32) (hK : va_K D vwCl (kTy cI cT) s) (m_isWorked : Int32) (m_lines : Int32) (m_product : Nat → Int32) (m_place : Nat → Int32) (m_ofX : Nat → Int32) (m_ofY : Nat → Int32) (m_steps : Int32) (m_step : Nat → Int32) (m_rows : Nat → Int32) (m_cell : Nat → Int32) (m_overs : Nat → Int32) (m_sure : Nat → Int32) (hP : va_P D vwCl [(mo, .inr (4, [.int m_isWorked, .int m_lines, .ref m_product_a, .ref m_place_a, .ref m_ofX_a, .ref m_ofY_a, .int m_steps, .ref m_step_a, .ref m_rows_a, .ref m_cell_a, .ref m_overs_a, .ref m_sure_a])), (m_product_a, .inl (cI, 16, .inl m_product)), (m_place_a, .inl (cI, 16, .inl m_place)), (m_ofX_a, .inl (cI, 16, .inl m_ofX)), (m_ofY_a, .inl (cI, 16, .inl m_ofY)), (m_step_a, .inl (cI, 5, .inl m_step)), (m_rows_a, .inl (cI, 4, .inl m_rows)), (m_cell_a, .inl (cI, 96, .inl m_cell)), (m_overs_a, .inl (cI, 29, .inl m_overs)), (m_sure_a, .inl (cI, 24, .inl m_sure))] s.heap) (res : Int32) (hQ : ∀ (v : Int32) (pc : Nat) (ls : Array Slot), v = 0 ∨ v = 1 → some v = some res → decode cX7_fits pc = .ok (.ireturn, 1) → W p l e rmX7_fits s m args below meth c s.heap [] 0 0 Q (F0 m pc ls [.int v])) : mX7_fits m_rows p1 p2 = some res → ∀ (ls : Array Slot), lv_has ls 3 [(0, .ref mo), (1, .int p1), (2, .int p2)] → W p l e rmX7_fits s m args below meth c s.heap [] 0 0 Q (F0 m 0 ls []) := by
  intro h ls hl
  have C0 := C
  obtain ⟨hx, hb, hml, hown, hts, hr, hlk, hnm⟩ := C0
  rw [mX7_fits] at h
  refine lv_iload_n hx hb dX7_fits_0 rfl (lv_at hl 2 rfl) ?_
  obtain ⟨u1, hu1, h⟩ := md_b h
  refine kS C (ctX7_firstOf l  hu1) gX7_fits_X7_firstOf rfl kdX7_firstOf ⟨rfl, rfl⟩ ⟨by decide, by decide⟩ kT_blind (fun _ _ _ => trivial) rfl hl [] rfl (Nat.le_of_ble_eq_true rfl) dX7_fits_1 ⟨by decide, by decide⟩ ?_
  refine lv_aload_n hx hb dX7_fits_4 rfl (lv_at hl 0 rfl) ?_
  refine va_get (D := D) (ci := 4) (v := .ref m_rows_a) (C := RX7) (T := TX7) (N := 12) hx hb hts wi_X7_fits_X7 hown hK hP 0 rfl rfl 8 (by decide) (hts _ wm_X7_fits_0) (fun _ h9 => h9) rfl dX7_fits_5 ?_
  refine lv_iload_n hx hb dX7_fits_8 rfl (lv_at hl 1 rfl) ?_
  obtain ⟨hin2, h⟩ := md_g h
  refine va_iald hx hb hK hP 6 0 rfl rfl hin2 dX7_fits_9 ?_
  refine lv_iadd hx hb dX7_fits_10 ?_
  refine lv_iload_n hx hb dX7_fits_11 rfl (lv_at hl 2 rfl) ?_
  obtain ⟨u3, hu3, h⟩ := md_b h
  refine kS C (ctX7_kindOf l  hu3) gX7_fits_X7_kindOf rfl kdX7_kindOf ⟨rfl, rfl⟩ ⟨by decide, by decide⟩ kT_blind (fun _ _ _ => trivial) rfl hl [.int (u1 + (m_rows (Int32.toNatClampNeg p1)))] rfl (Nat.le_of_ble_eq_true rfl) dX7_fits_12 ⟨by decide, by decide⟩ ?_
  obtain ⟨u4, hu4, h⟩ := md_b h
  refine kS C (ctX7_rowsOf l  hu4) gX7_fits_X7_rowsOf rfl kdX7_rowsOf ⟨rfl, rfl⟩ ⟨by decide, by decide⟩ kT_blind (fun _ _ _ => trivial) rfl hl [.int (u1 + (m_rows (Int32.toNatClampNeg p1)))] rfl (Nat.le_of_ble_eq_true rfl) dX7_fits_15 ⟨by decide, by decide⟩ ?_
  refine lv_icmp_gt (tgt := 25) hx hb dX7_fits_18 (by decide) (fun c5 => ?_) (fun c5 => ?_)
  · replace h := md_t c5 h
    refine lv_iconst (v := 0) hx hb dX7_fits_25 (by decide) ?_
    exact hQ (0 : Int32) 26 ls (by decide) h dX7_fits_26
  replace h := md_f c5 h
  refine lv_iconst (v := 1) hx hb dX7_fits_21 (by decide) ?_
  refine lv_goto (tgt := 26) hx hb dX7_fits_22 (by decide) ?_
  exact hQ (1 : Int32) 26 ls (by decide) h dX7_fits_26
set_option maxHeartbeats 4000000 in
theorem ctX7_fits (l : Launch) {D : va_G} {cI cT : ClassId} {mo m_product_a m_place_a m_ofX_a m_ofY_a m_step_a m_rows_a m_cell_a m_overs_a m_sure_a : Nat} {m_isWorked : Int32} {m_lines : Int32} {m_product : Nat → Int32} {m_place : Nat → Int32} {m_ofX : Nat → Int32} {m_ofY : Nat → Int32} {m_steps : Int32} {m_step : Nat → Int32} {m_rows : Nat → Int32} {m_cell : Nat → Int32} {m_overs : Nat → Int32} {m_sure : Nat → Int32} {p1 : Int32} {p2 : Int32} {res : Int32} (hm : mX7_fits m_rows p1 p2 = some res) : Met l yX7_fits wsX7_fits rmX7_fits (va_Pc [.ref mo, .int p1, .int p2] (kW D cI cT [(mo, .inr (4, [.int m_isWorked, .int m_lines, .ref m_product_a, .ref m_place_a, .ref m_ofX_a, .ref m_ofY_a, .int m_steps, .ref m_step_a, .ref m_rows_a, .ref m_cell_a, .ref m_overs_a, .ref m_sure_a])), (m_product_a, .inl (cI, 16, .inl m_product)), (m_place_a, .inl (cI, 16, .inl m_place)), (m_ofX_a, .inl (cI, 16, .inl m_ofX)), (m_ofY_a, .inl (cI, 16, .inl m_ofY)), (m_step_a, .inl (cI, 5, .inl m_step)), (m_rows_a, .inl (cI, 4, .inl m_rows)), (m_cell_a, .inl (cI, 96, .inl m_cell)), (m_overs_a, .inl (cI, 29, .inl m_overs)), (m_sure_a, .inl (cI, 24, .inl m_sure))] none (fun _ => False))) (kR (.int res)) 0 0 (fun _ => False) :=
  km (by decide) rfl (Nat.le_of_ble_eq_true rfl) (fun p e s m below meth c ls C hB hl => bX7_fits C p1 p2 hB.1 m_isWorked m_lines m_product m_place m_ofX m_ofY m_steps m_step m_rows m_cell m_overs m_sure hB.2.1 res (fun v pc ls hz h hd => kr_z C hz h hd) hm ls hl)
theorem kdvX7_reads : yX7_reads.cls = RX7 ∧ yX7_reads.cls ≠ "java/lang/invoke/MethodHandle" ∧ yX7_reads.cls ≠ "java/lang/invoke/VarHandle" ∧ (parseMethodDescriptor yX7_reads.desc).map (fun d => d.parameters.length) = some 2 := by decide +kernel
abbrev rmX7_reads : Room := { frames := 6, cells := 0, slots := 0, locals := 146 }
def mX7_reads (m_rows : Nat → Int32) (m_cell : Nat → Int32) (m_overs : Nat → Int32) (p1 : Int32) (p2 : Int32) : Option (Int32 × (Nat → Int32)) := (Option.bind (mX7_fits m_rows p1 p2) (fun u1 => (if u1 = 0 then (some ((0 : Int32), m_overs)) else (Option.bind (mX7_kindOf p2) (fun u3 => (Option.bind (mX7_nOf p2) (fun u4 => (Option.bind (mX7_firstOf p2) (fun u5 => (Option.bind (mX7_unlike m_rows m_cell m_overs p1 u3 u4 u5) (fun u6 => (if (100 : Int32) ≤ u6.1 then (some ((0 : Int32), u6.2)) else (some ((1 : Int32), u6.2))))))))))))))
set_option maxHeartbeats 4000000 in
set_option maxRecDepth 100000 in
theorem bX7_reads {p : Program} {l : Launch} {e : Env} {s : State} {m : MethodId} {args : Array Value} {below : List Frame} {meth : Method} {c : Code} {Q : State → Prop} (C : kc p s m args meth c cX7_reads 3 RX7 yX7_reads.name wsX7_reads (some .boolean)) {D : va_G} {cI cT : ClassId} {mo m_product_a m_place_a m_ofX_a m_ofY_a m_step_a m_rows_a m_cell_a m_overs_a m_sure_a : Nat} (p1 : Int32) (p2 : Int32) (hK : va_K D vwCl (kTy cI cT) s) (hnd : ([mo, m_product_a, m_place_a, m_ofX_a, m_ofY_a, m_step_a, m_rows_a, m_cell_a, m_overs_a, m_sure_a] : List Nat).Nodup) (m_isWorked : Int32) (m_lines : Int32) (m_product : Nat → Int32) (m_place : Nat → Int32) (m_ofX : Nat → Int32) (m_ofY : Nat → Int32) (m_steps : Int32) (m_step : Nat → Int32) (m_rows : Nat → Int32) (m_cell : Nat → Int32) (m_overs : Nat → Int32) (m_sure : Nat → Int32) (res : (Int32 × (Nat → Int32))) (hQ : ∀ (v : Int32) (m_overs : Nat → Int32) (H : Heap) (locs : List Loc) (pc : Nat) (ls : Array Slot), v = 0 ∨ v = 1 → some (v, m_overs) = some res → va_P D vwCl [(mo, .inr (4, [.int m_isWorked, .int m_lines, .ref m_product_a, .ref m_place_a, .ref m_ofX_a, .ref m_ofY_a, .int m_steps, .ref m_step_a, .ref m_rows_a, .ref m_cell_a, .ref m_overs_a, .ref m_sure_a])), (m_product_a, .inl (cI, 16, .inl m_product)), (m_place_a, .inl (cI, 16, .inl m_place)), (m_ofX_a, .inl (cI, 16, .inl m_ofX)), (m_ofY_a, .inl (cI, 16, .inl m_ofY)), (m_step_a, .inl (cI, 5, .inl m_step)), (m_rows_a, .inl (cI, 4, .inl m_rows)), (m_cell_a, .inl (cI, 96, .inl m_cell)), (m_overs_a, .inl (cI, 29, .inl m_overs)), (m_sure_a, .inl (cI, 24, .inl m_sure))] H → va_S (fun q => q ∈ ([mo, m_product_a, m_place_a, m_ofX_a, m_ofY_a, m_step_a, m_rows_a, m_cell_a, m_overs_a, m_sure_a] : List Nat)) s.heap H locs → decode cX7_reads pc = .ok (.ireturn, 1) → W p l e rmX7_reads s m args below meth c H locs 0 0 Q (F0 m pc ls [.int v])) : mX7_reads m_rows m_cell m_overs p1 p2 = some res → ∀ (H : Heap) (locs : List Loc), va_P D vwCl [(mo, .inr (4, [.int m_isWorked, .int m_lines, .ref m_product_a, .ref m_place_a, .ref m_ofX_a, .ref m_ofY_a, .int m_steps, .ref m_step_a, .ref m_rows_a, .ref m_cell_a, .ref m_overs_a, .ref m_sure_a])), (m_product_a, .inl (cI, 16, .inl m_product)), (m_place_a, .inl (cI, 16, .inl m_place)), (m_ofX_a, .inl (cI, 16, .inl m_ofX)), (m_ofY_a, .inl (cI, 16, .inl m_ofY)), (m_step_a, .inl (cI, 5, .inl m_step)), (m_rows_a, .inl (cI, 4, .inl m_rows)), (m_cell_a, .inl (cI, 96, .inl m_cell)), (m_overs_a, .inl (cI, 29, .inl m_overs)), (m_sure_a, .inl (cI, 24, .inl m_sure))] H → va_S (fun q => q ∈ ([mo, m_product_a, m_place_a, m_ofX_a, m_ofY_a, m_step_a, m_rows_a, m_cell_a, m_overs_a, m_sure_a] : List Nat)) s.heap H locs → ∀ (ls : Array Slot), lv_has ls 3 [(0, .ref mo), (1, .int p1), (2, .int p2)] → W p l e rmX7_reads s m args below meth c H locs 0 0 Q (F0 m 0 ls []) := by
  intro h H locs hP hS ls hl
  have C0 := C
  obtain ⟨hx, hb, hml, hown, hts, hr, hlk, hnm⟩ := C0
  rw [mX7_reads] at h
  refine lv_aload_n hx hb dX7_reads_0 rfl (lv_at hl 0 rfl) ?_
  refine lv_iload_n hx hb dX7_reads_1 rfl (lv_at hl 1 rfl) ?_
  refine lv_iload_n hx hb dX7_reads_2 rfl (lv_at hl 2 rfl) ?_
  obtain ⟨u1, hu1, h⟩ := md_b h
  refine kV C (ctX7_fits l  hu1) gX7_reads_X7_fits rfl kdvX7_fits ⟨rfl, rfl⟩ ⟨by decide, by decide⟩ kW_blind (va_recv hK hP (ci := 4) (q0 := 0) rfl rfl) (kW_use hK (hP.sub (ws' := [(mo, .inr (4, [.int m_isWorked, .int m_lines, .ref m_product_a, .ref m_place_a, .ref m_ofX_a, .ref m_ofY_a, .int m_steps, .ref m_step_a, .ref m_rows_a, .ref m_cell_a, .ref m_overs_a, .ref m_sure_a])), (m_product_a, .inl (cI, 16, .inl m_product)), (m_place_a, .inl (cI, 16, .inl m_place)), (m_ofX_a, .inl (cI, 16, .inl m_ofX)), (m_ofY_a, .inl (cI, 16, .inl m_ofY)), (m_step_a, .inl (cI, 5, .inl m_step)), (m_rows_a, .inl (cI, 4, .inl m_rows)), (m_cell_a, .inl (cI, 96, .inl m_cell)), (m_overs_a, .inl (cI, 29, .inl m_overs)), (m_sure_a, .inl (cI, 24, .inl m_sure))]) [0, 1, 2, 3, 4, 5, 6, 7, 8, 9] rfl) kL_no) rfl hl [] rfl (Nat.le_of_ble_eq_true rfl) dX7_reads_3 ⟨by decide, by decide⟩ ?_
  refine lv_if_eq (tgt := 35) hx hb dX7_reads_6 (by decide) (fun c2 => ?_) (fun c2 => ?_)
  · replace h := md_t c2 h
    refine lv_iconst (v := 0) hx hb dX7_reads_35 (by decide) ?_
    exact hQ (0 : Int32) m_overs H locs 36 ls (by decide) h hP hS dX7_reads_36
  replace h := md_f c2 h
  refine lv_aload_n hx hb dX7_reads_9 rfl (lv_at hl 0 rfl) ?_
  refine lv_iload_n hx hb dX7_reads_10 rfl (lv_at hl 1 rfl) ?_
  refine lv_iload_n hx hb dX7_reads_11 rfl (lv_at hl 2 rfl) ?_
  obtain ⟨u3, hu3, h⟩ := md_b h
  refine kS C (ctX7_kindOf l  hu3) gX7_reads_X7_kindOf rfl kdX7_kindOf ⟨rfl, rfl⟩ ⟨by decide, by decide⟩ kT_blind (fun _ _ _ => trivial) rfl hl [.int p1, .ref mo] rfl (Nat.le_of_ble_eq_true rfl) dX7_reads_12 ⟨by decide, by decide⟩ ?_
  refine lv_iload_n hx hb dX7_reads_15 rfl (lv_at hl 2 rfl) ?_
  obtain ⟨u4, hu4, h⟩ := md_b h
  refine kS C (ctX7_nOf l  hu4) gX7_reads_X7_nOf rfl kdX7_nOf ⟨rfl, rfl⟩ ⟨by decide, by decide⟩ kT_blind (fun _ _ _ => trivial) rfl hl [.int u3, .int p1, .ref mo] rfl (Nat.le_of_ble_eq_true rfl) dX7_reads_16 ⟨by decide, by decide⟩ ?_
  refine lv_iload_n hx hb dX7_reads_19 rfl (lv_at hl 2 rfl) ?_
  obtain ⟨u5, hu5, h⟩ := md_b h
  refine kS C (ctX7_firstOf l  hu5) gX7_reads_X7_firstOf rfl kdX7_firstOf ⟨rfl, rfl⟩ ⟨by decide, by decide⟩ kT_blind (fun _ _ _ => trivial) rfl hl [.int u4, .int u3, .int p1, .ref mo] rfl (Nat.le_of_ble_eq_true rfl) dX7_reads_20 ⟨by decide, by decide⟩ ?_
  obtain ⟨u6, hu6, h⟩ := md_b h
  refine kVx C (ctX7_unlike l (nd_sub hnd [0, 1, 2, 3, 4, 5, 6, 7, 8, 9] (by decide) rfl) hu6) gX7_reads_X7_unlike rfl kdvX7_unlike ⟨rfl, rfl⟩ ⟨by decide, by decide⟩ kW_blind (va_recv hK hP (ci := 4) (q0 := 0) rfl rfl) (kW_use hK (hP.sub (ws' := [(mo, .inr (4, [.int m_isWorked, .int m_lines, .ref m_product_a, .ref m_place_a, .ref m_ofX_a, .ref m_ofY_a, .int m_steps, .ref m_step_a, .ref m_rows_a, .ref m_cell_a, .ref m_overs_a, .ref m_sure_a])), (m_product_a, .inl (cI, 16, .inl m_product)), (m_place_a, .inl (cI, 16, .inl m_place)), (m_ofX_a, .inl (cI, 16, .inl m_ofX)), (m_ofY_a, .inl (cI, 16, .inl m_ofY)), (m_step_a, .inl (cI, 5, .inl m_step)), (m_rows_a, .inl (cI, 4, .inl m_rows)), (m_cell_a, .inl (cI, 96, .inl m_cell)), (m_overs_a, .inl (cI, 29, .inl m_overs)), (m_sure_a, .inl (cI, 24, .inl m_sure))]) [0, 1, 2, 3, 4, 5, 6, 7, 8, 9] rfl) kL_no) rfl hl [] rfl (Nat.le_of_ble_eq_true rfl) dX7_reads_23 ⟨by decide, by decide⟩ hS (mem_sub [0, 1, 2, 3, 4, 5, 6, 7, 8, 9] rfl) (fun H1 locs hP1 hk1 hS => ?_)
  replace hP : va_P D vwCl [(mo, .inr (4, [.int m_isWorked, .int m_lines, .ref m_product_a, .ref m_place_a, .ref m_ofX_a, .ref m_ofY_a, .int m_steps, .ref m_step_a, .ref m_rows_a, .ref m_cell_a, .ref m_overs_a, .ref m_sure_a])), (m_product_a, .inl (cI, 16, .inl m_product)), (m_place_a, .inl (cI, 16, .inl m_place)), (m_ofX_a, .inl (cI, 16, .inl m_ofX)), (m_ofY_a, .inl (cI, 16, .inl m_ofY)), (m_step_a, .inl (cI, 5, .inl m_step)), (m_rows_a, .inl (cI, 4, .inl m_rows)), (m_cell_a, .inl (cI, 96, .inl m_cell)), (m_overs_a, .inl (cI, 29, .inl u6.2)), (m_sure_a, .inl (cI, 24, .inl m_sure))] H1 := kjoin hnd rfl hP hP1 hk1 [0, 1, 2, 3, 4, 5, 6, 7, 8, 9] rfl [(true, 0), (true, 1), (true, 2), (true, 3), (true, 4), (true, 5), (true, 6), (true, 7), (true, 8), (true, 9)] rfl rfl
  clear hP1 hk1
  generalize H1 = H at hP hS ⊢
  refine lv_bipush (v := 100) hx hb dX7_reads_26 (by decide) ?_
  refine lv_icmp_ge (tgt := 35) hx hb dX7_reads_28 (by decide) (fun c7 => ?_) (fun c7 => ?_)
  · replace h := md_t c7 h
    refine lv_iconst (v := 0) hx hb dX7_reads_35 (by decide) ?_
    exact hQ (0 : Int32) u6.2 H locs 36 ls (by decide) h hP hS dX7_reads_36
  replace h := md_f c7 h
  refine lv_iconst (v := 1) hx hb dX7_reads_31 (by decide) ?_
  refine lv_goto (tgt := 36) hx hb dX7_reads_32 (by decide) ?_
  exact hQ (1 : Int32) u6.2 H locs 36 ls (by decide) h hP hS dX7_reads_36
set_option maxHeartbeats 4000000 in
theorem ctX7_reads (l : Launch) {D : va_G} {cI cT : ClassId} {mo m_product_a m_place_a m_ofX_a m_ofY_a m_step_a m_rows_a m_cell_a m_overs_a m_sure_a : Nat} {m_isWorked : Int32} {m_lines : Int32} {m_product : Nat → Int32} {m_place : Nat → Int32} {m_ofX : Nat → Int32} {m_ofY : Nat → Int32} {m_steps : Int32} {m_step : Nat → Int32} {m_rows : Nat → Int32} {m_cell : Nat → Int32} {m_overs : Nat → Int32} {m_sure : Nat → Int32} {p1 : Int32} {p2 : Int32} {res : (Int32 × (Nat → Int32))} (hnd : ([mo, m_product_a, m_place_a, m_ofX_a, m_ofY_a, m_step_a, m_rows_a, m_cell_a, m_overs_a, m_sure_a] : List Nat).Nodup) (hm : mX7_reads m_rows m_cell m_overs p1 p2 = some res) : Met l yX7_reads wsX7_reads rmX7_reads (va_Pc [.ref mo, .int p1, .int p2] (kW D cI cT [(mo, .inr (4, [.int m_isWorked, .int m_lines, .ref m_product_a, .ref m_place_a, .ref m_ofX_a, .ref m_ofY_a, .int m_steps, .ref m_step_a, .ref m_rows_a, .ref m_cell_a, .ref m_overs_a, .ref m_sure_a])), (m_product_a, .inl (cI, 16, .inl m_product)), (m_place_a, .inl (cI, 16, .inl m_place)), (m_ofX_a, .inl (cI, 16, .inl m_ofX)), (m_ofY_a, .inl (cI, 16, .inl m_ofY)), (m_step_a, .inl (cI, 5, .inl m_step)), (m_rows_a, .inl (cI, 4, .inl m_rows)), (m_cell_a, .inl (cI, 96, .inl m_cell)), (m_overs_a, .inl (cI, 29, .inl m_overs)), (m_sure_a, .inl (cI, 24, .inl m_sure))] none (fun q => q ∈ ([mo, m_product_a, m_place_a, m_ofX_a, m_ofY_a, m_step_a, m_rows_a, m_cell_a, m_overs_a, m_sure_a] : List Nat)))) (kX (some (.int res.1)) D [(mo, .inr (4, [.int m_isWorked, .int m_lines, .ref m_product_a, .ref m_place_a, .ref m_ofX_a, .ref m_ofY_a, .int m_steps, .ref m_step_a, .ref m_rows_a, .ref m_cell_a, .ref m_overs_a, .ref m_sure_a])), (m_product_a, .inl (cI, 16, .inl m_product)), (m_place_a, .inl (cI, 16, .inl m_place)), (m_ofX_a, .inl (cI, 16, .inl m_ofX)), (m_ofY_a, .inl (cI, 16, .inl m_ofY)), (m_step_a, .inl (cI, 5, .inl m_step)), (m_rows_a, .inl (cI, 4, .inl m_rows)), (m_cell_a, .inl (cI, 96, .inl m_cell)), (m_overs_a, .inl (cI, 29, .inl res.2)), (m_sure_a, .inl (cI, 24, .inl m_sure))] (fun q => q ∈ ([mo, m_product_a, m_place_a, m_ofX_a, m_ofY_a, m_step_a, m_rows_a, m_cell_a, m_overs_a, m_sure_a] : List Nat))) 0 0 (fun q => q ∈ ([mo, m_product_a, m_place_a, m_ofX_a, m_ofY_a, m_step_a, m_rows_a, m_cell_a, m_overs_a, m_sure_a] : List Nat)) :=
  km (by decide) rfl (Nat.le_of_ble_eq_true rfl) (fun p e s m below meth c ls C hB hl => bX7_reads C p1 p2 hB.1 hnd m_isWorked m_lines m_product m_place m_ofX m_ofY m_steps m_step m_rows m_cell m_overs m_sure res (fun v m_overs1 H locs pc ls hz h hP hS hd => by obtain rfl := Option.some.inj h; exact kx_z C hz hP hS hd) hm s.heap [] hB.2.1 va_S.rf ls hl)
theorem kdvX7_reading : yX7_reading.cls = RX7 ∧ yX7_reading.cls ≠ "java/lang/invoke/MethodHandle" ∧ yX7_reading.cls ≠ "java/lang/invoke/VarHandle" ∧ (parseMethodDescriptor yX7_reading.desc).map (fun d => d.parameters.length) = some 2 := by decide +kernel
abbrev rmX7_reading : Room := { frames := 7, cells := 0, slots := 0, locals := 168 }
def mlX7_reading_14 (x1 : Int32) (x2 : Int32) (m_rows : Nat → Int32) (m_cell : Nat → Int32) (kE : Int32 → (Nat → Int32) → Option (Int32 × (Nat → Int32))) : Nat → Int32 → Int32 → (Nat → Int32) → Option (Int32 × (Nat → Int32))
  | 0, _, _, _ => none
  | n + 1, x3, x4, m_overs => (if (3609 : Int32) ≤ x4 then (kE x3 m_overs) else (Option.bind (mX7_reads m_rows m_cell m_overs x1 x4) (fun u4 => (md_jn (fun (x3_65 : Int32) => (md_let (x4 + (1 : Int32)) (fun (x4_5 : Int32) => (mlX7_reading_14 x1 x2 m_rows m_cell kE n x3_65 x4_5 u4.2)))) (fun kJ65 => (if u4.1 = 0 then (kJ65 x3) else (if x3 = x2 then (Option.bind (mX7_kindOf x4) (fun u9 => (Option.bind (mX7_nOf x4) (fun u10 => (Option.bind (mX7_firstOf x4) (fun u11 => (some (((((10000 : Int32) * u9) + ((100 : Int32) * u10)) + u11), u4.2)))))))) else (md_let (x3 + (1 : Int32)) (fun (x3_8 : Int32) => (kJ65 x3_8))))))))))
set_option maxHeartbeats 4000000 in
set_option maxRecDepth 100000 in
theorem lX7_reading_14 {p : Program} {l : Launch} {e : Env} {s : State} {m : MethodId} {args : Array Value} {below : List Frame} {meth : Method} {c : Code} {Q : State → Prop} (C : kc p s m args meth c cX7_reading 5 RX7 yX7_reading.name wsX7_reading (some .int)) {D : va_G} {cI cT : ClassId} {mo m_product_a m_place_a m_ofX_a m_ofY_a m_step_a m_rows_a m_cell_a m_overs_a m_sure_a : Nat} (hK : va_K D vwCl (kTy cI cT) s) (hnd : ([mo, m_product_a, m_place_a, m_ofX_a, m_ofY_a, m_step_a, m_rows_a, m_cell_a, m_overs_a, m_sure_a] : List Nat).Nodup) (x1 : Int32) (x2 : Int32) (m_isWorked : Int32) (m_lines : Int32) (m_product : Nat → Int32) (m_place : Nat → Int32) (m_ofX : Nat → Int32) (m_ofY : Nat → Int32) (m_steps : Int32) (m_step : Nat → Int32) (m_rows : Nat → Int32) (m_cell : Nat → Int32) (m_sure : Nat → Int32) (res : (Int32 × (Nat → Int32))) (hQ : ∀ (v : Int32) (m_overs : Nat → Int32) (H : Heap) (locs : List Loc) (pc : Nat) (ls : Array Slot), some (v, m_overs) = some res → va_P D vwCl [(mo, .inr (4, [.int m_isWorked, .int m_lines, .ref m_product_a, .ref m_place_a, .ref m_ofX_a, .ref m_ofY_a, .int m_steps, .ref m_step_a, .ref m_rows_a, .ref m_cell_a, .ref m_overs_a, .ref m_sure_a])), (m_product_a, .inl (cI, 16, .inl m_product)), (m_place_a, .inl (cI, 16, .inl m_place)), (m_ofX_a, .inl (cI, 16, .inl m_ofX)), (m_ofY_a, .inl (cI, 16, .inl m_ofY)), (m_step_a, .inl (cI, 5, .inl m_step)), (m_rows_a, .inl (cI, 4, .inl m_rows)), (m_cell_a, .inl (cI, 96, .inl m_cell)), (m_overs_a, .inl (cI, 29, .inl m_overs)), (m_sure_a, .inl (cI, 24, .inl m_sure))] H → va_S (fun q => q ∈ ([mo, m_product_a, m_place_a, m_ofX_a, m_ofY_a, m_step_a, m_rows_a, m_cell_a, m_overs_a, m_sure_a] : List Nat)) s.heap H locs → decode cX7_reading pc = .ok (.ireturn, 1) → W p l e rmX7_reading s m args below meth c H locs 0 0 Q (F0 m pc ls [.int v])) (kE : Int32 → (Nat → Int32) → Option (Int32 × (Nat → Int32))) (hE : ∀ (y3 : Int32) (m_overs : Nat → Int32), kE y3 m_overs = some res → ∀ (H : Heap) (locs : List Loc), va_P D vwCl [(mo, .inr (4, [.int m_isWorked, .int m_lines, .ref m_product_a, .ref m_place_a, .ref m_ofX_a, .ref m_ofY_a, .int m_steps, .ref m_step_a, .ref m_rows_a, .ref m_cell_a, .ref m_overs_a, .ref m_sure_a])), (m_product_a, .inl (cI, 16, .inl m_product)), (m_place_a, .inl (cI, 16, .inl m_place)), (m_ofX_a, .inl (cI, 16, .inl m_ofX)), (m_ofY_a, .inl (cI, 16, .inl m_ofY)), (m_step_a, .inl (cI, 5, .inl m_step)), (m_rows_a, .inl (cI, 4, .inl m_rows)), (m_cell_a, .inl (cI, 96, .inl m_cell)), (m_overs_a, .inl (cI, 29, .inl m_overs)), (m_sure_a, .inl (cI, 24, .inl m_sure))] H → va_S (fun q => q ∈ ([mo, m_product_a, m_place_a, m_ofX_a, m_ofY_a, m_step_a, m_rows_a, m_cell_a, m_overs_a, m_sure_a] : List Nat)) s.heap H locs → ∀ (ls : Array Slot), lv_has ls 5 [(2, .int x2), (3, .int y3)] → W p l e rmX7_reading s m args below meth c H locs 0 0 Q (F0 m 71 ls [])) : ∀ (n : Nat), ∀ (x3 : Int32) (x4 : Int32) (m_overs : Nat → Int32), mlX7_reading_14 x1 x2 m_rows m_cell kE n x3 x4 m_overs = some res → ∀ (H : Heap) (locs : List Loc), va_P D vwCl [(mo, .inr (4, [.int m_isWorked, .int m_lines, .ref m_product_a, .ref m_place_a, .ref m_ofX_a, .ref m_ofY_a, .int m_steps, .ref m_step_a, .ref m_rows_a, .ref m_cell_a, .ref m_overs_a, .ref m_sure_a])), (m_product_a, .inl (cI, 16, .inl m_product)), (m_place_a, .inl (cI, 16, .inl m_place)), (m_ofX_a, .inl (cI, 16, .inl m_ofX)), (m_ofY_a, .inl (cI, 16, .inl m_ofY)), (m_step_a, .inl (cI, 5, .inl m_step)), (m_rows_a, .inl (cI, 4, .inl m_rows)), (m_cell_a, .inl (cI, 96, .inl m_cell)), (m_overs_a, .inl (cI, 29, .inl m_overs)), (m_sure_a, .inl (cI, 24, .inl m_sure))] H → va_S (fun q => q ∈ ([mo, m_product_a, m_place_a, m_ofX_a, m_ofY_a, m_step_a, m_rows_a, m_cell_a, m_overs_a, m_sure_a] : List Nat)) s.heap H locs → ∀ (ls : Array Slot), lv_has ls 5 [(0, .ref mo), (1, .int x1), (2, .int x2), (3, .int x3), (4, .int x4)] → W p l e rmX7_reading s m args below meth c H locs 0 0 Q (F0 m 14 ls []) := by
  have C0 := C
  obtain ⟨hx, hb, hml, hown, hts, hr, hlk, hnm⟩ := C0
  intro n
  induction n with
  | zero => intro _ _ _ h; exact md_x h
  | succ n ih =>
    intro x3 x4 m_overs h H locs hP hS ls hl
    rw [mlX7_reading_14] at h
    refine lv_iload hx hb dX7_reading_14 (lv_at hl 4 rfl) ?_
    refine lv_sipush (v := 3609) hx hb dX7_reading_16 (by decide) ?_
    refine lv_icmp_ge (tgt := 71) hx hb dX7_reading_19 (by decide) (fun c3 => ?_) (fun c3 => ?_)
    · replace h := md_t c3 h
      exact hE x3 m_overs h _ _ hP hS ls (lv_sub hl [2, 3] rfl)
    replace h := md_f c3 h
    refine lv_aload_n hx hb dX7_reading_22 rfl (lv_at hl 0 rfl) ?_
    refine lv_iload_n hx hb dX7_reading_23 rfl (lv_at hl 1 rfl) ?_
    refine lv_iload hx hb dX7_reading_24 (lv_at hl 4 rfl) ?_
    obtain ⟨u4, hu4, h⟩ := md_b h
    refine kVx C (ctX7_reads l (nd_sub hnd [0, 1, 2, 3, 4, 5, 6, 7, 8, 9] (by decide) rfl) hu4) gX7_reading_X7_reads rfl kdvX7_reads ⟨rfl, rfl⟩ ⟨by decide, by decide⟩ kW_blind (va_recv hK hP (ci := 4) (q0 := 0) rfl rfl) (kW_use hK (hP.sub (ws' := [(mo, .inr (4, [.int m_isWorked, .int m_lines, .ref m_product_a, .ref m_place_a, .ref m_ofX_a, .ref m_ofY_a, .int m_steps, .ref m_step_a, .ref m_rows_a, .ref m_cell_a, .ref m_overs_a, .ref m_sure_a])), (m_product_a, .inl (cI, 16, .inl m_product)), (m_place_a, .inl (cI, 16, .inl m_place)), (m_ofX_a, .inl (cI, 16, .inl m_ofX)), (m_ofY_a, .inl (cI, 16, .inl m_ofY)), (m_step_a, .inl (cI, 5, .inl m_step)), (m_rows_a, .inl (cI, 4, .inl m_rows)), (m_cell_a, .inl (cI, 96, .inl m_cell)), (m_overs_a, .inl (cI, 29, .inl m_overs)), (m_sure_a, .inl (cI, 24, .inl m_sure))]) [0, 1, 2, 3, 4, 5, 6, 7, 8, 9] rfl) kL_no) rfl hl [] rfl (Nat.le_of_ble_eq_true rfl) dX7_reading_26 ⟨by decide, by decide⟩ hS (mem_sub [0, 1, 2, 3, 4, 5, 6, 7, 8, 9] rfl) (fun H1 locs hP1 hk1 hS => ?_)
    replace hP : va_P D vwCl [(mo, .inr (4, [.int m_isWorked, .int m_lines, .ref m_product_a, .ref m_place_a, .ref m_ofX_a, .ref m_ofY_a, .int m_steps, .ref m_step_a, .ref m_rows_a, .ref m_cell_a, .ref m_overs_a, .ref m_sure_a])), (m_product_a, .inl (cI, 16, .inl m_product)), (m_place_a, .inl (cI, 16, .inl m_place)), (m_ofX_a, .inl (cI, 16, .inl m_ofX)), (m_ofY_a, .inl (cI, 16, .inl m_ofY)), (m_step_a, .inl (cI, 5, .inl m_step)), (m_rows_a, .inl (cI, 4, .inl m_rows)), (m_cell_a, .inl (cI, 96, .inl m_cell)), (m_overs_a, .inl (cI, 29, .inl u4.2)), (m_sure_a, .inl (cI, 24, .inl m_sure))] H1 := kjoin hnd rfl hP hP1 hk1 [0, 1, 2, 3, 4, 5, 6, 7, 8, 9] rfl [(true, 0), (true, 1), (true, 2), (true, 3), (true, 4), (true, 5), (true, 6), (true, 7), (true, 8), (true, 9)] rfl rfl
    clear hP1 hk1
    generalize H1 = H at hP hS ⊢
    obtain ⟨kJ65, ekJ65, h⟩ := md_jo h
    have KJ65 : ∀ (x3_65 : Int32), kJ65 x3_65 = some res → ∀ (H : Heap) (locs : List Loc), va_P D vwCl [(mo, .inr (4, [.int m_isWorked, .int m_lines, .ref m_product_a, .ref m_place_a, .ref m_ofX_a, .ref m_ofY_a, .int m_steps, .ref m_step_a, .ref m_rows_a, .ref m_cell_a, .ref m_overs_a, .ref m_sure_a])), (m_product_a, .inl (cI, 16, .inl m_product)), (m_place_a, .inl (cI, 16, .inl m_place)), (m_ofX_a, .inl (cI, 16, .inl m_ofX)), (m_ofY_a, .inl (cI, 16, .inl m_ofY)), (m_step_a, .inl (cI, 5, .inl m_step)), (m_rows_a, .inl (cI, 4, .inl m_rows)), (m_cell_a, .inl (cI, 96, .inl m_cell)), (m_overs_a, .inl (cI, 29, .inl u4.2)), (m_sure_a, .inl (cI, 24, .inl m_sure))] H → va_S (fun q => q ∈ ([mo, m_product_a, m_place_a, m_ofX_a, m_ofY_a, m_step_a, m_rows_a, m_cell_a, m_overs_a, m_sure_a] : List Nat)) s.heap H locs → ∀ (ls : Array Slot), lv_has ls 5 [(0, .ref mo), (1, .int x1), (2, .int x2), (3, .int x3_65), (4, .int x4)] → W p l e rmX7_reading s m args below meth c H locs 0 0 Q (F0 m 65 ls []) := by
      intro x3_65 h H locs hP hS ls hl
      rw [ekJ65] at h
      obtain ⟨x4_5, ex4_5⟩ : ∃ y : Int32, y = (x4 + (1 : Int32)) := ⟨_, rfl⟩
      replace h := md_le ex4_5 h
      refine lv_iinc (v := x4_5) (lv' := [(4, .int x4_5), (0, .ref mo), (1, .int x1), (2, .int x2), (3, .int x3_65)]) hx hb dX7_reading_65 hl (k := 4) rfl (by rw [ex4_5]; rfl) (by decide) rfl (fun ls hl => ?_)
      refine lv_goto (tgt := 14) hx hb dX7_reading_68 (by decide) ?_
      exact ih x3_65 x4_5 u4.2 h _ _ hP hS ls (lv_sub hl [1, 2, 3, 4, 0] rfl)
    clear ekJ65
    refine lv_if_eq (tgt := 65) hx hb dX7_reading_29 (by decide) (fun c6 => ?_) (fun c6 => ?_)
    · replace h := md_t c6 h
      exact KJ65 x3 h _ _ hP hS ls (lv_sub hl [0, 1, 2, 3, 4] rfl)
    replace h := md_f c6 h
    refine lv_iload_n hx hb dX7_reading_32 rfl (lv_at hl 3 rfl) ?_
    refine lv_iload_n hx hb dX7_reading_33 rfl (lv_at hl 2 rfl) ?_
    refine lv_icmp_ne (tgt := 62) hx hb dX7_reading_34 (by decide) (fun c7 => ?_) (fun c7 => ?_)
    · replace h := md_f c7 h
      obtain ⟨x3_8, ex3_8⟩ : ∃ y : Int32, y = (x3 + (1 : Int32)) := ⟨_, rfl⟩
      replace h := md_le ex3_8 h
      refine lv_iinc (v := x3_8) (lv' := [(3, .int x3_8), (0, .ref mo), (1, .int x1), (2, .int x2), (4, .int x4)]) hx hb dX7_reading_62 hl (k := 3) rfl (by rw [ex3_8]; rfl) (by decide) rfl (fun ls hl => ?_)
      exact KJ65 x3_8 h _ _ hP hS ls (lv_sub hl [1, 2, 3, 0, 4] rfl)
    replace h := md_t c7 h
    refine lv_sipush (v := 10000) hx hb dX7_reading_37 (by decide) ?_
    refine lv_iload hx hb dX7_reading_40 (lv_at hl 4 rfl) ?_
    obtain ⟨u9, hu9, h⟩ := md_b h
    refine kS C (ctX7_kindOf l  hu9) gX7_reading_X7_kindOf rfl kdX7_kindOf ⟨rfl, rfl⟩ ⟨by decide, by decide⟩ kT_blind (fun _ _ _ => trivial) rfl hl [.int (10000 : Int32)] rfl (Nat.le_of_ble_eq_true rfl) dX7_reading_42 ⟨by decide, by decide⟩ ?_
    refine lv_imul hx hb dX7_reading_45 ?_
    refine lv_bipush (v := 100) hx hb dX7_reading_46 (by decide) ?_
    refine lv_iload hx hb dX7_reading_48 (lv_at hl 4 rfl) ?_
    obtain ⟨u10, hu10, h⟩ := md_b h
    refine kS C (ctX7_nOf l  hu10) gX7_reading_X7_nOf rfl kdX7_nOf ⟨rfl, rfl⟩ ⟨by decide, by decide⟩ kT_blind (fun _ _ _ => trivial) rfl hl [.int (100 : Int32), .int ((10000 : Int32) * u9)] rfl (Nat.le_of_ble_eq_true rfl) dX7_reading_50 ⟨by decide, by decide⟩ ?_
    refine lv_imul hx hb dX7_reading_53 ?_
    refine lv_iadd hx hb dX7_reading_54 ?_
    refine lv_iload hx hb dX7_reading_55 (lv_at hl 4 rfl) ?_
    obtain ⟨u11, hu11, h⟩ := md_b h
    refine kS C (ctX7_firstOf l  hu11) gX7_reading_X7_firstOf rfl kdX7_firstOf ⟨rfl, rfl⟩ ⟨by decide, by decide⟩ kT_blind (fun _ _ _ => trivial) rfl hl [.int (((10000 : Int32) * u9) + ((100 : Int32) * u10))] rfl (Nat.le_of_ble_eq_true rfl) dX7_reading_57 ⟨by decide, by decide⟩ ?_
    refine lv_iadd hx hb dX7_reading_60 ?_
    exact hQ ((((10000 : Int32) * u9) + ((100 : Int32) * u10)) + u11) u4.2 H locs 61 ls h hP hS dX7_reading_61
def mX7_reading (m_rows : Nat → Int32) (m_cell : Nat → Int32) (m_overs : Nat → Int32) (p1 : Int32) (p2 : Int32) : Option (Int32 × (Nat → Int32)) := (Option.bind (mX7_isTablet p1) (fun u1 => (if u1 = 0 then (some ((-1 : Int32), m_overs)) else (mlX7_reading_14 p1 p2 m_rows m_cell (fun (y3_71 : Int32) (m_overs_71 : Nat → Int32) => (if p2 = (-1 : Int32) then (some (y3_71, m_overs_71)) else (some ((-6 : Int32), m_overs_71)))) kN (0 : Int32) (0 : Int32) m_overs))))
set_option maxHeartbeats 4000000 in
set_option maxRecDepth 100000 in
theorem bX7_reading {p : Program} {l : Launch} {e : Env} {s : State} {m : MethodId} {args : Array Value} {below : List Frame} {meth : Method} {c : Code} {Q : State → Prop} (C : kc p s m args meth c cX7_reading 5 RX7 yX7_reading.name wsX7_reading (some .int)) {D : va_G} {cI cT : ClassId} {mo m_product_a m_place_a m_ofX_a m_ofY_a m_step_a m_rows_a m_cell_a m_overs_a m_sure_a : Nat} (p1 : Int32) (p2 : Int32) (hK : va_K D vwCl (kTy cI cT) s) (hnd : ([mo, m_product_a, m_place_a, m_ofX_a, m_ofY_a, m_step_a, m_rows_a, m_cell_a, m_overs_a, m_sure_a] : List Nat).Nodup) (m_isWorked : Int32) (m_lines : Int32) (m_product : Nat → Int32) (m_place : Nat → Int32) (m_ofX : Nat → Int32) (m_ofY : Nat → Int32) (m_steps : Int32) (m_step : Nat → Int32) (m_rows : Nat → Int32) (m_cell : Nat → Int32) (m_overs : Nat → Int32) (m_sure : Nat → Int32) (res : (Int32 × (Nat → Int32))) (hQ : ∀ (v : Int32) (m_overs : Nat → Int32) (H : Heap) (locs : List Loc) (pc : Nat) (ls : Array Slot), some (v, m_overs) = some res → va_P D vwCl [(mo, .inr (4, [.int m_isWorked, .int m_lines, .ref m_product_a, .ref m_place_a, .ref m_ofX_a, .ref m_ofY_a, .int m_steps, .ref m_step_a, .ref m_rows_a, .ref m_cell_a, .ref m_overs_a, .ref m_sure_a])), (m_product_a, .inl (cI, 16, .inl m_product)), (m_place_a, .inl (cI, 16, .inl m_place)), (m_ofX_a, .inl (cI, 16, .inl m_ofX)), (m_ofY_a, .inl (cI, 16, .inl m_ofY)), (m_step_a, .inl (cI, 5, .inl m_step)), (m_rows_a, .inl (cI, 4, .inl m_rows)), (m_cell_a, .inl (cI, 96, .inl m_cell)), (m_overs_a, .inl (cI, 29, .inl m_overs)), (m_sure_a, .inl (cI, 24, .inl m_sure))] H → va_S (fun q => q ∈ ([mo, m_product_a, m_place_a, m_ofX_a, m_ofY_a, m_step_a, m_rows_a, m_cell_a, m_overs_a, m_sure_a] : List Nat)) s.heap H locs → decode cX7_reading pc = .ok (.ireturn, 1) → W p l e rmX7_reading s m args below meth c H locs 0 0 Q (F0 m pc ls [.int v])) : mX7_reading m_rows m_cell m_overs p1 p2 = some res → ∀ (H : Heap) (locs : List Loc), va_P D vwCl [(mo, .inr (4, [.int m_isWorked, .int m_lines, .ref m_product_a, .ref m_place_a, .ref m_ofX_a, .ref m_ofY_a, .int m_steps, .ref m_step_a, .ref m_rows_a, .ref m_cell_a, .ref m_overs_a, .ref m_sure_a])), (m_product_a, .inl (cI, 16, .inl m_product)), (m_place_a, .inl (cI, 16, .inl m_place)), (m_ofX_a, .inl (cI, 16, .inl m_ofX)), (m_ofY_a, .inl (cI, 16, .inl m_ofY)), (m_step_a, .inl (cI, 5, .inl m_step)), (m_rows_a, .inl (cI, 4, .inl m_rows)), (m_cell_a, .inl (cI, 96, .inl m_cell)), (m_overs_a, .inl (cI, 29, .inl m_overs)), (m_sure_a, .inl (cI, 24, .inl m_sure))] H → va_S (fun q => q ∈ ([mo, m_product_a, m_place_a, m_ofX_a, m_ofY_a, m_step_a, m_rows_a, m_cell_a, m_overs_a, m_sure_a] : List Nat)) s.heap H locs → ∀ (ls : Array Slot), lv_has ls 5 [(0, .ref mo), (1, .int p1), (2, .int p2)] → W p l e rmX7_reading s m args below meth c H locs 0 0 Q (F0 m 0 ls []) := by
  intro h H locs hP hS ls hl
  have C0 := C
  obtain ⟨hx, hb, hml, hown, hts, hr, hlk, hnm⟩ := C0
  rw [mX7_reading] at h
  refine lv_iload_n hx hb dX7_reading_0 rfl (lv_at hl 1 rfl) ?_
  obtain ⟨u1, hu1, h⟩ := md_b h
  refine kS C (ctX7_isTablet l  hu1) gX7_reading_X7_isTablet rfl kdX7_isTablet ⟨rfl, rfl⟩ ⟨by decide, by decide⟩ kT_blind (fun _ _ _ => trivial) rfl hl [] rfl (Nat.le_of_ble_eq_true rfl) dX7_reading_1 ⟨by decide, by decide⟩ ?_
  refine lv_if_ne (tgt := 9) hx hb dX7_reading_4 (by decide) (fun c2 => ?_) (fun c2 => ?_)
  · replace h := md_f c2 h
    refine lv_iconst (v := 0) hx hb dX7_reading_9 (by decide) ?_
    refine lv_istore_n (lv' := [(3, .int (0 : Int32)), (0, .ref mo), (1, .int p1), (2, .int p2)]) hx hb dX7_reading_10 rfl hl (by decide) rfl (fun ls hl => ?_)
    refine lv_iconst (v := 0) hx hb dX7_reading_11 (by decide) ?_
    refine lv_istore (lv' := [(4, .int (0 : Int32)), (3, .int (0 : Int32)), (0, .ref mo), (1, .int p1), (2, .int p2)]) hx hb dX7_reading_12 hl (by decide) rfl (fun ls hl => ?_)
    refine lX7_reading_14 (mo := mo) (m_product_a := m_product_a) (m_place_a := m_place_a) (m_ofX_a := m_ofX_a) (m_ofY_a := m_ofY_a) (m_step_a := m_step_a) (m_rows_a := m_rows_a) (m_cell_a := m_cell_a) (m_overs_a := m_overs_a) (m_sure_a := m_sure_a) C hK hnd p1 p2 m_isWorked m_lines m_product m_place m_ofX m_ofY m_steps m_step m_rows m_cell m_sure res hQ _ (fun y3_71 m_overs_71 h H locs hP hS ls hl => ?_) kN (0 : Int32) (0 : Int32) m_overs h _ _ hP hS ls (lv_sub hl [2, 3, 4, 1, 0] rfl)
    refine lv_iload_n hx hb dX7_reading_71 rfl (lv_at hl 0 rfl) ?_
    refine lv_iconst (v := -1) hx hb dX7_reading_72 (by decide) ?_
    refine lv_icmp_ne (tgt := 80) hx hb dX7_reading_73 (by decide) (fun c12 => ?_) (fun c12 => ?_)
    · replace h := md_f c12 h
      refine lv_bipush (v := -6) hx hb dX7_reading_80 (by decide) ?_
      exact hQ (-6 : Int32) m_overs_71 H locs 82 ls h hP hS dX7_reading_82
    replace h := md_t c12 h
    refine lv_iload_n hx hb dX7_reading_76 rfl (lv_at hl 1 rfl) ?_
    refine lv_goto (tgt := 82) hx hb dX7_reading_77 (by decide) ?_
    exact hQ y3_71 m_overs_71 H locs 82 ls h hP hS dX7_reading_82
  replace h := md_t c2 h
  refine lv_iconst (v := -1) hx hb dX7_reading_7 (by decide) ?_
  exact hQ (-1 : Int32) m_overs H locs 8 ls h hP hS dX7_reading_8
set_option maxHeartbeats 4000000 in
theorem ctX7_reading (l : Launch) {D : va_G} {cI cT : ClassId} {mo m_product_a m_place_a m_ofX_a m_ofY_a m_step_a m_rows_a m_cell_a m_overs_a m_sure_a : Nat} {m_isWorked : Int32} {m_lines : Int32} {m_product : Nat → Int32} {m_place : Nat → Int32} {m_ofX : Nat → Int32} {m_ofY : Nat → Int32} {m_steps : Int32} {m_step : Nat → Int32} {m_rows : Nat → Int32} {m_cell : Nat → Int32} {m_overs : Nat → Int32} {m_sure : Nat → Int32} {p1 : Int32} {p2 : Int32} {res : (Int32 × (Nat → Int32))} (hnd : ([mo, m_product_a, m_place_a, m_ofX_a, m_ofY_a, m_step_a, m_rows_a, m_cell_a, m_overs_a, m_sure_a] : List Nat).Nodup) (hm : mX7_reading m_rows m_cell m_overs p1 p2 = some res) : Met l yX7_reading wsX7_reading rmX7_reading (va_Pc [.ref mo, .int p1, .int p2] (kW D cI cT [(mo, .inr (4, [.int m_isWorked, .int m_lines, .ref m_product_a, .ref m_place_a, .ref m_ofX_a, .ref m_ofY_a, .int m_steps, .ref m_step_a, .ref m_rows_a, .ref m_cell_a, .ref m_overs_a, .ref m_sure_a])), (m_product_a, .inl (cI, 16, .inl m_product)), (m_place_a, .inl (cI, 16, .inl m_place)), (m_ofX_a, .inl (cI, 16, .inl m_ofX)), (m_ofY_a, .inl (cI, 16, .inl m_ofY)), (m_step_a, .inl (cI, 5, .inl m_step)), (m_rows_a, .inl (cI, 4, .inl m_rows)), (m_cell_a, .inl (cI, 96, .inl m_cell)), (m_overs_a, .inl (cI, 29, .inl m_overs)), (m_sure_a, .inl (cI, 24, .inl m_sure))] none (fun q => q ∈ ([mo, m_product_a, m_place_a, m_ofX_a, m_ofY_a, m_step_a, m_rows_a, m_cell_a, m_overs_a, m_sure_a] : List Nat)))) (kX (some (.int res.1)) D [(mo, .inr (4, [.int m_isWorked, .int m_lines, .ref m_product_a, .ref m_place_a, .ref m_ofX_a, .ref m_ofY_a, .int m_steps, .ref m_step_a, .ref m_rows_a, .ref m_cell_a, .ref m_overs_a, .ref m_sure_a])), (m_product_a, .inl (cI, 16, .inl m_product)), (m_place_a, .inl (cI, 16, .inl m_place)), (m_ofX_a, .inl (cI, 16, .inl m_ofX)), (m_ofY_a, .inl (cI, 16, .inl m_ofY)), (m_step_a, .inl (cI, 5, .inl m_step)), (m_rows_a, .inl (cI, 4, .inl m_rows)), (m_cell_a, .inl (cI, 96, .inl m_cell)), (m_overs_a, .inl (cI, 29, .inl res.2)), (m_sure_a, .inl (cI, 24, .inl m_sure))] (fun q => q ∈ ([mo, m_product_a, m_place_a, m_ofX_a, m_ofY_a, m_step_a, m_rows_a, m_cell_a, m_overs_a, m_sure_a] : List Nat))) 0 0 (fun q => q ∈ ([mo, m_product_a, m_place_a, m_ofX_a, m_ofY_a, m_step_a, m_rows_a, m_cell_a, m_overs_a, m_sure_a] : List Nat)) :=
  km (by decide) rfl (Nat.le_of_ble_eq_true rfl) (fun p e s m below meth c ls C hB hl => bX7_reading C p1 p2 hB.1 hnd m_isWorked m_lines m_product m_place m_ofX m_ofY m_steps m_step m_rows m_cell m_overs m_sure res (fun v m_overs1 H locs pc ls h hP hS hd => by obtain rfl := Option.some.inj h; exact kx_i C hP hS hd) hm s.heap [] hB.2.1 va_S.rf ls hl)
theorem wm_X7_laySure_0 : Cond.fieldLink RX7 34 "SixtyTabletModel" "sure" "[I" ∈ wsX7_laySure := by decide +kernel
theorem wm_X7_laySure_1 : Cond.fieldLink RX7 25 "SixtyTabletModel" "rows" "[I" ∈ wsX7_laySure := by decide +kernel
theorem wi_X7_laySure_X7 : ∀ w ∈ wsX70, w ∈ wsX7_laySure := by decide +kernel
theorem kdvX7_laySure : yX7_laySure.cls = RX7 ∧ yX7_laySure.cls ≠ "java/lang/invoke/MethodHandle" ∧ yX7_laySure.cls ≠ "java/lang/invoke/VarHandle" ∧ (parseMethodDescriptor yX7_laySure.desc).map (fun d => d.parameters.length) = some 1 := by decide +kernel
abbrev rmX7_laySure : Room := { frames := 7, cells := 0, slots := 0, locals := 168 }
def mlX7_laySure_2 (kE : (Nat → Int32) → Option ((Nat → Int32) × (Nat → Int32))) : Nat → Int32 → (Nat → Int32) → Option ((Nat → Int32) × (Nat → Int32))
  | 0, _, _ => none
  | n + 1, x2, m_sure => (if (24 : Int32) ≤ x2 then (kE m_sure) else (if x2 < 0 ∨ 24 ≤ (Int32.toNatClampNeg x2) then none else (md_let (upd m_sure (Int32.toNatClampNeg x2) (0 : Int32)) (fun (m_sure_2 : Nat → Int32) => (md_let (x2 + (1 : Int32)) (fun (x2_3 : Int32) => (mlX7_laySure_2 kE n x2_3 m_sure_2)))))))
set_option maxHeartbeats 4000000 in
set_option maxRecDepth 100000 in
theorem lX7_laySure_2 {p : Program} {l : Launch} {e : Env} {s : State} {m : MethodId} {args : Array Value} {below : List Frame} {meth : Method} {c : Code} {Q : State → Prop} (C : kc p s m args meth c cX7_laySure 5 RX7 yX7_laySure.name wsX7_laySure none) {D : va_G} {cI cT : ClassId} {mo m_product_a m_place_a m_ofX_a m_ofY_a m_step_a m_rows_a m_cell_a m_overs_a m_sure_a : Nat} (hK : va_K D vwCl (kTy cI cT) s) (hnd : ([mo, m_product_a, m_place_a, m_ofX_a, m_ofY_a, m_step_a, m_rows_a, m_cell_a, m_overs_a, m_sure_a] : List Nat).Nodup) (x1 : Int32) (m_isWorked : Int32) (m_lines : Int32) (m_product : Nat → Int32) (m_place : Nat → Int32) (m_ofX : Nat → Int32) (m_ofY : Nat → Int32) (m_steps : Int32) (m_step : Nat → Int32) (m_rows : Nat → Int32) (m_cell : Nat → Int32) (m_overs : Nat → Int32) (res : ((Nat → Int32) × (Nat → Int32))) (hQ : ∀ (m_overs : Nat → Int32) (m_sure : Nat → Int32) (H : Heap) (locs : List Loc) (pc : Nat) (ls : Array Slot), some (m_overs, m_sure) = some res → va_P D vwCl [(mo, .inr (4, [.int m_isWorked, .int m_lines, .ref m_product_a, .ref m_place_a, .ref m_ofX_a, .ref m_ofY_a, .int m_steps, .ref m_step_a, .ref m_rows_a, .ref m_cell_a, .ref m_overs_a, .ref m_sure_a])), (m_product_a, .inl (cI, 16, .inl m_product)), (m_place_a, .inl (cI, 16, .inl m_place)), (m_ofX_a, .inl (cI, 16, .inl m_ofX)), (m_ofY_a, .inl (cI, 16, .inl m_ofY)), (m_step_a, .inl (cI, 5, .inl m_step)), (m_rows_a, .inl (cI, 4, .inl m_rows)), (m_cell_a, .inl (cI, 96, .inl m_cell)), (m_overs_a, .inl (cI, 29, .inl m_overs)), (m_sure_a, .inl (cI, 24, .inl m_sure))] H → va_S (fun q => q ∈ ([mo, m_product_a, m_place_a, m_ofX_a, m_ofY_a, m_step_a, m_rows_a, m_cell_a, m_overs_a, m_sure_a] : List Nat)) s.heap H locs → decode cX7_laySure pc = .ok (.return_, 1) → W p l e rmX7_laySure s m args below meth c H locs 0 0 Q (F0 m pc ls [])) (kE : (Nat → Int32) → Option ((Nat → Int32) × (Nat → Int32))) (hE : ∀ (m_sure : Nat → Int32), kE m_sure = some res → ∀ (H : Heap) (locs : List Loc), va_P D vwCl [(mo, .inr (4, [.int m_isWorked, .int m_lines, .ref m_product_a, .ref m_place_a, .ref m_ofX_a, .ref m_ofY_a, .int m_steps, .ref m_step_a, .ref m_rows_a, .ref m_cell_a, .ref m_overs_a, .ref m_sure_a])), (m_product_a, .inl (cI, 16, .inl m_product)), (m_place_a, .inl (cI, 16, .inl m_place)), (m_ofX_a, .inl (cI, 16, .inl m_ofX)), (m_ofY_a, .inl (cI, 16, .inl m_ofY)), (m_step_a, .inl (cI, 5, .inl m_step)), (m_rows_a, .inl (cI, 4, .inl m_rows)), (m_cell_a, .inl (cI, 96, .inl m_cell)), (m_overs_a, .inl (cI, 29, .inl m_overs)), (m_sure_a, .inl (cI, 24, .inl m_sure))] H → va_S (fun q => q ∈ ([mo, m_product_a, m_place_a, m_ofX_a, m_ofY_a, m_step_a, m_rows_a, m_cell_a, m_overs_a, m_sure_a] : List Nat)) s.heap H locs → ∀ (ls : Array Slot), lv_has ls 5 [(0, .ref mo), (1, .int x1)] → W p l e rmX7_laySure s m args below meth c H locs 0 0 Q (F0 m 21 ls [])) : ∀ (n : Nat), ∀ (x2 : Int32) (m_sure : Nat → Int32), mlX7_laySure_2 kE n x2 m_sure = some res → ∀ (H : Heap) (locs : List Loc), va_P D vwCl [(mo, .inr (4, [.int m_isWorked, .int m_lines, .ref m_product_a, .ref m_place_a, .ref m_ofX_a, .ref m_ofY_a, .int m_steps, .ref m_step_a, .ref m_rows_a, .ref m_cell_a, .ref m_overs_a, .ref m_sure_a])), (m_product_a, .inl (cI, 16, .inl m_product)), (m_place_a, .inl (cI, 16, .inl m_place)), (m_ofX_a, .inl (cI, 16, .inl m_ofX)), (m_ofY_a, .inl (cI, 16, .inl m_ofY)), (m_step_a, .inl (cI, 5, .inl m_step)), (m_rows_a, .inl (cI, 4, .inl m_rows)), (m_cell_a, .inl (cI, 96, .inl m_cell)), (m_overs_a, .inl (cI, 29, .inl m_overs)), (m_sure_a, .inl (cI, 24, .inl m_sure))] H → va_S (fun q => q ∈ ([mo, m_product_a, m_place_a, m_ofX_a, m_ofY_a, m_step_a, m_rows_a, m_cell_a, m_overs_a, m_sure_a] : List Nat)) s.heap H locs → ∀ (ls : Array Slot), lv_has ls 5 [(0, .ref mo), (1, .int x1), (2, .int x2)] → W p l e rmX7_laySure s m args below meth c H locs 0 0 Q (F0 m 2 ls []) := by
  have C0 := C
  obtain ⟨hx, hb, hml, hown, hts, hr, hlk, hnm⟩ := C0
  intro n
  induction n with
  | zero => intro _ _ h; exact md_x h
  | succ n ih =>
    intro x2 m_sure h H locs hP hS ls hl
    rw [mlX7_laySure_2] at h
    refine lv_iload_n hx hb dX7_laySure_2 rfl (lv_at hl 2 rfl) ?_
    refine lv_bipush (v := 24) hx hb dX7_laySure_3 (by decide) ?_
    refine lv_icmp_ge (tgt := 21) hx hb dX7_laySure_5 (by decide) (fun c1 => ?_) (fun c1 => ?_)
    · replace h := md_t c1 h
      exact hE m_sure h _ _ hP hS ls (lv_sub hl [0, 1] rfl)
    replace h := md_f c1 h
    refine lv_aload_n hx hb dX7_laySure_8 rfl (lv_at hl 0 rfl) ?_
    refine va_get (D := D) (ci := 4) (v := .ref m_sure_a) (C := RX7) (T := TX7) (N := 12) hx hb hts wi_X7_laySure_X7 hown hK hP 0 rfl rfl 11 (by decide) (hts _ wm_X7_laySure_0) (fun _ h9 => h9) rfl dX7_laySure_9 ?_
    refine lv_iload_n hx hb dX7_laySure_12 rfl (lv_at hl 2 rfl) ?_
    refine lv_iconst (v := 0) hx hb dX7_laySure_13 (by decide) ?_
    obtain ⟨hin2, h⟩ := md_g h
    refine va_iast hx hb hK hP (kD hnd rfl) hS 9 0 rfl rfl hin2 dX7_laySure_14 (fun H locs hP _ hS => ?_)
    have hP : va_P D vwCl [(mo, .inr (4, [.int m_isWorked, .int m_lines, .ref m_product_a, .ref m_place_a, .ref m_ofX_a, .ref m_ofY_a, .int m_steps, .ref m_step_a, .ref m_rows_a, .ref m_cell_a, .ref m_overs_a, .ref m_sure_a])), (m_product_a, .inl (cI, 16, .inl m_product)), (m_place_a, .inl (cI, 16, .inl m_place)), (m_ofX_a, .inl (cI, 16, .inl m_ofX)), (m_ofY_a, .inl (cI, 16, .inl m_ofY)), (m_step_a, .inl (cI, 5, .inl m_step)), (m_rows_a, .inl (cI, 4, .inl m_rows)), (m_cell_a, .inl (cI, 96, .inl m_cell)), (m_overs_a, .inl (cI, 29, .inl m_overs)), (m_sure_a, .inl (cI, 24, .inl (upd m_sure (Int32.toNatClampNeg x2) (0 : Int32))))] H := hP
    obtain ⟨m_sure_2, em_sure_2⟩ : ∃ y : Nat → Int32, y = (upd m_sure (Int32.toNatClampNeg x2) (0 : Int32)) := ⟨_, rfl⟩
    replace h := md_le em_sure_2 h
    rw [← em_sure_2] at hP
    obtain ⟨x2_3, ex2_3⟩ : ∃ y : Int32, y = (x2 + (1 : Int32)) := ⟨_, rfl⟩
    replace h := md_le ex2_3 h
    refine lv_iinc (v := x2_3) (lv' := [(2, .int x2_3), (0, .ref mo), (1, .int x1)]) hx hb dX7_laySure_15 hl (k := 2) rfl (by rw [ex2_3]; rfl) (by decide) rfl (fun ls hl => ?_)
    refine lv_goto (tgt := 2) hx hb dX7_laySure_18 (by decide) ?_
    exact ih x2_3 m_sure_2 h _ _ hP hS ls (lv_sub hl [1, 2, 0] rfl)
def mlX7_laySure_41 (x1 : Int32) (x2 : Int32) (m_rows : Nat → Int32) (kE : (Nat → Int32) → (Nat → Int32) → Option ((Nat → Int32) × (Nat → Int32))) : Nat → Int32 → (Nat → Int32) → (Nat → Int32) → Option ((Nat → Int32) × (Nat → Int32))
  | 0, _, _, _ => none
  | n + 1, x3, m_overs, m_sure => (if x1 < 0 ∨ 4 ≤ (Int32.toNatClampNeg x1) then none else (if ((3 : Int32) * (m_rows (Int32.toNatClampNeg x1))) ≤ x3 then (kE m_overs m_sure) else (Option.bind (mX7_kindOf x2) (fun u10 => (Option.bind (mX7_nOf x2) (fun u11 => (Option.bind (mX7_firstOf x2) (fun u12 => (Option.bind (mX7_tableAt m_overs u10 u11 (u12 + (x3 / (3 : Int32))) (x3 - x3 / (3 : Int32) * (3 : Int32))) (fun u13 => (Option.bind (mX7_sixtyOf (Int32.toInt64 u13.1)) (fun u14 => (md_let (Int64.toInt32 u14) (fun (x4_15 : Int32) => (if x3 < 0 ∨ 24 ≤ (Int32.toNatClampNeg x3) then none else (md_jn (fun (z2_114 : Int32) => (if x3 < 0 ∨ 24 ≤ (Int32.toNatClampNeg x3) then none else (md_let (upd m_sure (Int32.toNatClampNeg x3) z2_114) (fun (m_sure_17 : Nat → Int32) => (md_let (x3 + (1 : Int32)) (fun (x3_18 : Int32) => (mlX7_laySure_41 x1 x2 m_rows kE n x3_18 u13.2 m_sure_17))))))) (fun kJ114 => (md_jn (fun (u_108 : Unit) => (kJ114 x4_15)) (fun kJ108 => (if (m_sure (Int32.toNatClampNeg x3)) = 0 then (kJ108 ()) else (if x3 < 0 ∨ 24 ≤ (Int32.toNatClampNeg x3) then none else (if (m_sure (Int32.toNatClampNeg x3)) = x4_15 then (kJ108 ()) else (kJ114 (-1 : Int32))))))))))))))))))))))))
set_option maxHeartbeats 4000000 in
set_option maxRecDepth 100000 in
theorem lX7_laySure_41 {p : Program} {l : Launch} {e : Env} {s : State} {m : MethodId} {args : Array Value} {below : List Frame} {meth : Method} {c : Code} {Q : State → Prop} (C : kc p s m args meth c cX7_laySure 5 RX7 yX7_laySure.name wsX7_laySure none) {D : va_G} {cI cT : ClassId} {mo m_product_a m_place_a m_ofX_a m_ofY_a m_step_a m_rows_a m_cell_a m_overs_a m_sure_a : Nat} (hK : va_K D vwCl (kTy cI cT) s) (hnd : ([mo, m_product_a, m_place_a, m_ofX_a, m_ofY_a, m_step_a, m_rows_a, m_cell_a, m_overs_a, m_sure_a] : List Nat).Nodup) (x1 : Int32) (x2 : Int32) (m_isWorked : Int32) (m_lines : Int32) (m_product : Nat → Int32) (m_place : Nat → Int32) (m_ofX : Nat → Int32) (m_ofY : Nat → Int32) (m_steps : Int32) (m_step : Nat → Int32) (m_rows : Nat → Int32) (m_cell : Nat → Int32) (res : ((Nat → Int32) × (Nat → Int32))) (hQ : ∀ (m_overs : Nat → Int32) (m_sure : Nat → Int32) (H : Heap) (locs : List Loc) (pc : Nat) (ls : Array Slot), some (m_overs, m_sure) = some res → va_P D vwCl [(mo, .inr (4, [.int m_isWorked, .int m_lines, .ref m_product_a, .ref m_place_a, .ref m_ofX_a, .ref m_ofY_a, .int m_steps, .ref m_step_a, .ref m_rows_a, .ref m_cell_a, .ref m_overs_a, .ref m_sure_a])), (m_product_a, .inl (cI, 16, .inl m_product)), (m_place_a, .inl (cI, 16, .inl m_place)), (m_ofX_a, .inl (cI, 16, .inl m_ofX)), (m_ofY_a, .inl (cI, 16, .inl m_ofY)), (m_step_a, .inl (cI, 5, .inl m_step)), (m_rows_a, .inl (cI, 4, .inl m_rows)), (m_cell_a, .inl (cI, 96, .inl m_cell)), (m_overs_a, .inl (cI, 29, .inl m_overs)), (m_sure_a, .inl (cI, 24, .inl m_sure))] H → va_S (fun q => q ∈ ([mo, m_product_a, m_place_a, m_ofX_a, m_ofY_a, m_step_a, m_rows_a, m_cell_a, m_overs_a, m_sure_a] : List Nat)) s.heap H locs → decode cX7_laySure pc = .ok (.return_, 1) → W p l e rmX7_laySure s m args below meth c H locs 0 0 Q (F0 m pc ls [])) (kE : (Nat → Int32) → (Nat → Int32) → Option ((Nat → Int32) × (Nat → Int32))) (hE : ∀ (m_overs : Nat → Int32) (m_sure : Nat → Int32), kE m_overs m_sure = some res → ∀ (H : Heap) (locs : List Loc), va_P D vwCl [(mo, .inr (4, [.int m_isWorked, .int m_lines, .ref m_product_a, .ref m_place_a, .ref m_ofX_a, .ref m_ofY_a, .int m_steps, .ref m_step_a, .ref m_rows_a, .ref m_cell_a, .ref m_overs_a, .ref m_sure_a])), (m_product_a, .inl (cI, 16, .inl m_product)), (m_place_a, .inl (cI, 16, .inl m_place)), (m_ofX_a, .inl (cI, 16, .inl m_ofX)), (m_ofY_a, .inl (cI, 16, .inl m_ofY)), (m_step_a, .inl (cI, 5, .inl m_step)), (m_rows_a, .inl (cI, 4, .inl m_rows)), (m_cell_a, .inl (cI, 96, .inl m_cell)), (m_overs_a, .inl (cI, 29, .inl m_overs)), (m_sure_a, .inl (cI, 24, .inl m_sure))] H → va_S (fun q => q ∈ ([mo, m_product_a, m_place_a, m_ofX_a, m_ofY_a, m_step_a, m_rows_a, m_cell_a, m_overs_a, m_sure_a] : List Nat)) s.heap H locs → ∀ (ls : Array Slot), lv_has ls 5 [(0, .ref mo), (1, .int x1), (2, .int x2)] → W p l e rmX7_laySure s m args below meth c H locs 0 0 Q (F0 m 121 ls [])) : ∀ (n : Nat), ∀ (x3 : Int32) (m_overs : Nat → Int32) (m_sure : Nat → Int32), mlX7_laySure_41 x1 x2 m_rows kE n x3 m_overs m_sure = some res → ∀ (H : Heap) (locs : List Loc), va_P D vwCl [(mo, .inr (4, [.int m_isWorked, .int m_lines, .ref m_product_a, .ref m_place_a, .ref m_ofX_a, .ref m_ofY_a, .int m_steps, .ref m_step_a, .ref m_rows_a, .ref m_cell_a, .ref m_overs_a, .ref m_sure_a])), (m_product_a, .inl (cI, 16, .inl m_product)), (m_place_a, .inl (cI, 16, .inl m_place)), (m_ofX_a, .inl (cI, 16, .inl m_ofX)), (m_ofY_a, .inl (cI, 16, .inl m_ofY)), (m_step_a, .inl (cI, 5, .inl m_step)), (m_rows_a, .inl (cI, 4, .inl m_rows)), (m_cell_a, .inl (cI, 96, .inl m_cell)), (m_overs_a, .inl (cI, 29, .inl m_overs)), (m_sure_a, .inl (cI, 24, .inl m_sure))] H → va_S (fun q => q ∈ ([mo, m_product_a, m_place_a, m_ofX_a, m_ofY_a, m_step_a, m_rows_a, m_cell_a, m_overs_a, m_sure_a] : List Nat)) s.heap H locs → ∀ (ls : Array Slot), lv_has ls 5 [(0, .ref mo), (1, .int x1), (2, .int x2), (3, .int x3)] → W p l e rmX7_laySure s m args below meth c H locs 0 0 Q (F0 m 41 ls []) := by
  have C0 := C
  obtain ⟨hx, hb, hml, hown, hts, hr, hlk, hnm⟩ := C0
  intro n
  induction n with
  | zero => intro _ _ _ h; exact md_x h
  | succ n ih =>
    intro x3 m_overs m_sure h H locs hP hS ls hl
    rw [mlX7_laySure_41] at h
    refine lv_iload_n hx hb dX7_laySure_41 rfl (lv_at hl 3 rfl) ?_
    refine lv_iconst (v := 3) hx hb dX7_laySure_42 (by decide) ?_
    refine lv_aload_n hx hb dX7_laySure_43 rfl (lv_at hl 0 rfl) ?_
    refine va_get (D := D) (ci := 4) (v := .ref m_rows_a) (C := RX7) (T := TX7) (N := 12) hx hb hts wi_X7_laySure_X7 hown hK hP 0 rfl rfl 8 (by decide) (hts _ wm_X7_laySure_1) (fun _ h9 => h9) rfl dX7_laySure_44 ?_
    refine lv_iload_n hx hb dX7_laySure_47 rfl (lv_at hl 1 rfl) ?_
    obtain ⟨hin8, h⟩ := md_g h
    refine va_iald hx hb hK hP 6 0 rfl rfl hin8 dX7_laySure_48 ?_
    refine lv_imul hx hb dX7_laySure_49 ?_
    refine lv_icmp_ge (tgt := 121) hx hb dX7_laySure_50 (by decide) (fun c9 => ?_) (fun c9 => ?_)
    · replace h := md_t c9 h
      exact hE m_overs m_sure h _ _ hP hS ls (lv_sub hl [0, 1, 2] rfl)
    replace h := md_f c9 h
    refine lv_aload_n hx hb dX7_laySure_53 rfl (lv_at hl 0 rfl) ?_
    refine lv_iload_n hx hb dX7_laySure_54 rfl (lv_at hl 2 rfl) ?_
    obtain ⟨u10, hu10, h⟩ := md_b h
    refine kS C (ctX7_kindOf l  hu10) gX7_laySure_X7_kindOf rfl kdX7_kindOf ⟨rfl, rfl⟩ ⟨by decide, by decide⟩ kT_blind (fun _ _ _ => trivial) rfl hl [.ref mo] rfl (Nat.le_of_ble_eq_true rfl) dX7_laySure_55 ⟨by decide, by decide⟩ ?_
    refine lv_iload_n hx hb dX7_laySure_58 rfl (lv_at hl 2 rfl) ?_
    obtain ⟨u11, hu11, h⟩ := md_b h
    refine kS C (ctX7_nOf l  hu11) gX7_laySure_X7_nOf rfl kdX7_nOf ⟨rfl, rfl⟩ ⟨by decide, by decide⟩ kT_blind (fun _ _ _ => trivial) rfl hl [.int u10, .ref mo] rfl (Nat.le_of_ble_eq_true rfl) dX7_laySure_59 ⟨by decide, by decide⟩ ?_
    refine lv_iload_n hx hb dX7_laySure_62 rfl (lv_at hl 2 rfl) ?_
    obtain ⟨u12, hu12, h⟩ := md_b h
    refine kS C (ctX7_firstOf l  hu12) gX7_laySure_X7_firstOf rfl kdX7_firstOf ⟨rfl, rfl⟩ ⟨by decide, by decide⟩ kT_blind (fun _ _ _ => trivial) rfl hl [.int u11, .int u10, .ref mo] rfl (Nat.le_of_ble_eq_true rfl) dX7_laySure_63 ⟨by decide, by decide⟩ ?_
    refine lv_iload_n hx hb dX7_laySure_66 rfl (lv_at hl 3 rfl) ?_
    refine lv_iconst (v := 3) hx hb dX7_laySure_67 (by decide) ?_
    refine lv_idiv hx hb dX7_laySure_68 (by decide) ?_
    refine lv_iadd hx hb dX7_laySure_69 ?_
    refine lv_iload_n hx hb dX7_laySure_70 rfl (lv_at hl 3 rfl) ?_
    refine lv_iconst (v := 3) hx hb dX7_laySure_71 (by decide) ?_
    refine lv_irem hx hb dX7_laySure_72 (by decide) ?_
    obtain ⟨u13, hu13, h⟩ := md_b h
    refine kVx C (ctX7_tableAt l (nd_sub hnd [0, 1, 2, 3, 4, 5, 6, 7, 8, 9] (by decide) rfl) hu13) gX7_laySure_X7_tableAt rfl kdvX7_tableAt ⟨rfl, rfl⟩ ⟨by decide, by decide⟩ kW_blind (va_recv hK hP (ci := 4) (q0 := 0) rfl rfl) (kW_use hK (hP.sub (ws' := [(mo, .inr (4, [.int m_isWorked, .int m_lines, .ref m_product_a, .ref m_place_a, .ref m_ofX_a, .ref m_ofY_a, .int m_steps, .ref m_step_a, .ref m_rows_a, .ref m_cell_a, .ref m_overs_a, .ref m_sure_a])), (m_product_a, .inl (cI, 16, .inl m_product)), (m_place_a, .inl (cI, 16, .inl m_place)), (m_ofX_a, .inl (cI, 16, .inl m_ofX)), (m_ofY_a, .inl (cI, 16, .inl m_ofY)), (m_step_a, .inl (cI, 5, .inl m_step)), (m_rows_a, .inl (cI, 4, .inl m_rows)), (m_cell_a, .inl (cI, 96, .inl m_cell)), (m_overs_a, .inl (cI, 29, .inl m_overs)), (m_sure_a, .inl (cI, 24, .inl m_sure))]) [0, 1, 2, 3, 4, 5, 6, 7, 8, 9] rfl) kL_no) rfl hl [] rfl (Nat.le_of_ble_eq_true rfl) dX7_laySure_73 ⟨by decide, by decide⟩ hS (mem_sub [0, 1, 2, 3, 4, 5, 6, 7, 8, 9] rfl) (fun H1 locs hP1 hk1 hS => ?_)
    replace hP : va_P D vwCl [(mo, .inr (4, [.int m_isWorked, .int m_lines, .ref m_product_a, .ref m_place_a, .ref m_ofX_a, .ref m_ofY_a, .int m_steps, .ref m_step_a, .ref m_rows_a, .ref m_cell_a, .ref m_overs_a, .ref m_sure_a])), (m_product_a, .inl (cI, 16, .inl m_product)), (m_place_a, .inl (cI, 16, .inl m_place)), (m_ofX_a, .inl (cI, 16, .inl m_ofX)), (m_ofY_a, .inl (cI, 16, .inl m_ofY)), (m_step_a, .inl (cI, 5, .inl m_step)), (m_rows_a, .inl (cI, 4, .inl m_rows)), (m_cell_a, .inl (cI, 96, .inl m_cell)), (m_overs_a, .inl (cI, 29, .inl u13.2)), (m_sure_a, .inl (cI, 24, .inl m_sure))] H1 := kjoin hnd rfl hP hP1 hk1 [0, 1, 2, 3, 4, 5, 6, 7, 8, 9] rfl [(true, 0), (true, 1), (true, 2), (true, 3), (true, 4), (true, 5), (true, 6), (true, 7), (true, 8), (true, 9)] rfl rfl
    clear hP1 hk1
    generalize H1 = H at hP hS ⊢
    refine lv_i2l hx hb dX7_laySure_76 rfl ?_
    obtain ⟨u14, hu14, h⟩ := md_b h
    refine kS C (ctX7_sixtyOf l  hu14) gX7_laySure_X7_sixtyOf rfl kdX7_sixtyOf ⟨rfl, rfl⟩ ⟨by decide, by decide⟩ kT_blind (fun _ _ _ => trivial) rfl hl [] rfl (Nat.le_of_ble_eq_true rfl) dX7_laySure_77 ⟨by decide, by decide⟩ ?_
    refine lv_l2i hx hb dX7_laySure_80 rfl ?_
    refine lv_topi (fun x4_15 ex4_15 => ?_)
    replace h := md_le ex4_15 h
    refine lv_istore (lv' := [(4, .int x4_15), (0, .ref mo), (1, .int x1), (2, .int x2), (3, .int x3)]) hx hb dX7_laySure_81 hl (by decide) rfl (fun ls hl => ?_)
    refine lv_aload_n hx hb dX7_laySure_83 rfl (lv_at hl 1 rfl) ?_
    refine va_get (D := D) (ci := 4) (v := .ref m_sure_a) (C := RX7) (T := TX7) (N := 12) hx hb hts wi_X7_laySure_X7 hown hK hP 0 rfl rfl 11 (by decide) (hts _ wm_X7_laySure_0) (fun _ h9 => h9) rfl dX7_laySure_84 ?_
    refine lv_iload_n hx hb dX7_laySure_87 rfl (lv_at hl 4 rfl) ?_
    refine lv_aload_n hx hb dX7_laySure_88 rfl (lv_at hl 1 rfl) ?_
    refine va_get (D := D) (ci := 4) (v := .ref m_sure_a) (C := RX7) (T := TX7) (N := 12) hx hb hts wi_X7_laySure_X7 hown hK hP 0 rfl rfl 11 (by decide) (hts _ wm_X7_laySure_0) (fun _ h9 => h9) rfl dX7_laySure_89 ?_
    refine lv_iload_n hx hb dX7_laySure_92 rfl (lv_at hl 4 rfl) ?_
    obtain ⟨hin16, h⟩ := md_g h
    refine va_iald hx hb hK hP 9 0 rfl rfl hin16 dX7_laySure_93 ?_
    obtain ⟨kJ114, ekJ114, h⟩ := md_jo h
    have KJ114 : ∀ (z2_114 : Int32), kJ114 z2_114 = some res → ∀ (H : Heap) (locs : List Loc), va_P D vwCl [(mo, .inr (4, [.int m_isWorked, .int m_lines, .ref m_product_a, .ref m_place_a, .ref m_ofX_a, .ref m_ofY_a, .int m_steps, .ref m_step_a, .ref m_rows_a, .ref m_cell_a, .ref m_overs_a, .ref m_sure_a])), (m_product_a, .inl (cI, 16, .inl m_product)), (m_place_a, .inl (cI, 16, .inl m_place)), (m_ofX_a, .inl (cI, 16, .inl m_ofX)), (m_ofY_a, .inl (cI, 16, .inl m_ofY)), (m_step_a, .inl (cI, 5, .inl m_step)), (m_rows_a, .inl (cI, 4, .inl m_rows)), (m_cell_a, .inl (cI, 96, .inl m_cell)), (m_overs_a, .inl (cI, 29, .inl u13.2)), (m_sure_a, .inl (cI, 24, .inl m_sure))] H → va_S (fun q => q ∈ ([mo, m_product_a, m_place_a, m_ofX_a, m_ofY_a, m_step_a, m_rows_a, m_cell_a, m_overs_a, m_sure_a] : List Nat)) s.heap H locs → ∀ (ls : Array Slot), lv_has ls 5 [(0, .ref mo), (1, .int x1), (2, .int x2), (3, .int x3)] → W p l e rmX7_laySure s m args below meth c H locs 0 0 Q (F0 m 114 ls [.int z2_114, .int x3, .ref m_sure_a]) := by
      intro z2_114 h H locs hP hS ls hl
      rw [ekJ114] at h
      obtain ⟨hin17, h⟩ := md_g h
      refine va_iast hx hb hK hP (kD hnd rfl) hS 9 0 rfl rfl hin17 dX7_laySure_114 (fun H locs hP _ hS => ?_)
      have hP : va_P D vwCl [(mo, .inr (4, [.int m_isWorked, .int m_lines, .ref m_product_a, .ref m_place_a, .ref m_ofX_a, .ref m_ofY_a, .int m_steps, .ref m_step_a, .ref m_rows_a, .ref m_cell_a, .ref m_overs_a, .ref m_sure_a])), (m_product_a, .inl (cI, 16, .inl m_product)), (m_place_a, .inl (cI, 16, .inl m_place)), (m_ofX_a, .inl (cI, 16, .inl m_ofX)), (m_ofY_a, .inl (cI, 16, .inl m_ofY)), (m_step_a, .inl (cI, 5, .inl m_step)), (m_rows_a, .inl (cI, 4, .inl m_rows)), (m_cell_a, .inl (cI, 96, .inl m_cell)), (m_overs_a, .inl (cI, 29, .inl u13.2)), (m_sure_a, .inl (cI, 24, .inl (upd m_sure (Int32.toNatClampNeg x3) z2_114)))] H := hP
      obtain ⟨m_sure_17, em_sure_17⟩ : ∃ y : Nat → Int32, y = (upd m_sure (Int32.toNatClampNeg x3) z2_114) := ⟨_, rfl⟩
      replace h := md_le em_sure_17 h
      rw [← em_sure_17] at hP
      obtain ⟨x3_18, ex3_18⟩ : ∃ y : Int32, y = (x3 + (1 : Int32)) := ⟨_, rfl⟩
      replace h := md_le ex3_18 h
      refine lv_iinc (v := x3_18) (lv' := [(3, .int x3_18), (0, .ref mo), (1, .int x1), (2, .int x2)]) hx hb dX7_laySure_115 hl (k := 3) rfl (by rw [ex3_18]; rfl) (by decide) rfl (fun ls hl => ?_)
      refine lv_goto (tgt := 41) hx hb dX7_laySure_118 (by decide) ?_
      exact ih x3_18 u13.2 m_sure_17 h _ _ hP hS ls (lv_sub hl [1, 2, 3, 0] rfl)
    clear ekJ114
    obtain ⟨kJ108, ekJ108, h⟩ := md_jo h
    have KJ108 : ∀ (u_108 : Unit), kJ108 u_108 = some res → ∀ (H : Heap) (locs : List Loc), va_P D vwCl [(mo, .inr (4, [.int m_isWorked, .int m_lines, .ref m_product_a, .ref m_place_a, .ref m_ofX_a, .ref m_ofY_a, .int m_steps, .ref m_step_a, .ref m_rows_a, .ref m_cell_a, .ref m_overs_a, .ref m_sure_a])), (m_product_a, .inl (cI, 16, .inl m_product)), (m_place_a, .inl (cI, 16, .inl m_place)), (m_ofX_a, .inl (cI, 16, .inl m_ofX)), (m_ofY_a, .inl (cI, 16, .inl m_ofY)), (m_step_a, .inl (cI, 5, .inl m_step)), (m_rows_a, .inl (cI, 4, .inl m_rows)), (m_cell_a, .inl (cI, 96, .inl m_cell)), (m_overs_a, .inl (cI, 29, .inl u13.2)), (m_sure_a, .inl (cI, 24, .inl m_sure))] H → va_S (fun q => q ∈ ([mo, m_product_a, m_place_a, m_ofX_a, m_ofY_a, m_step_a, m_rows_a, m_cell_a, m_overs_a, m_sure_a] : List Nat)) s.heap H locs → ∀ (ls : Array Slot), lv_has ls 5 [(0, .ref mo), (1, .int x1), (2, .int x2), (3, .int x3), (4, .int x4_15)] → W p l e rmX7_laySure s m args below meth c H locs 0 0 Q (F0 m 108 ls [.int x3, .ref m_sure_a]) := by
      intro u_108 h H locs hP hS ls hl
      rw [ekJ108] at h
      refine lv_iload hx hb dX7_laySure_108 (lv_at hl 4 rfl) ?_
      refine lv_goto (tgt := 114) hx hb dX7_laySure_110 (by decide) ?_
      exact KJ114 x4_15 h _ _ hP hS ls (lv_sub hl [0, 1, 2, 3] rfl)
    clear ekJ108
    refine lv_if_eq (tgt := 108) hx hb dX7_laySure_94 (by decide) (fun c19 => ?_) (fun c19 => ?_)
    · replace h := md_t c19 h
      exact KJ108 () h _ _ hP hS ls (lv_sub hl [1, 2, 3, 4, 0] rfl)
    replace h := md_f c19 h
    refine lv_aload_n hx hb dX7_laySure_97 rfl (lv_at hl 1 rfl) ?_
    refine va_get (D := D) (ci := 4) (v := .ref m_sure_a) (C := RX7) (T := TX7) (N := 12) hx hb hts wi_X7_laySure_X7 hown hK hP 0 rfl rfl 11 (by decide) (hts _ wm_X7_laySure_0) (fun _ h9 => h9) rfl dX7_laySure_98 ?_
    refine lv_iload_n hx hb dX7_laySure_101 rfl (lv_at hl 4 rfl) ?_
    obtain ⟨hin20, h⟩ := md_g h
    refine va_iald hx hb hK hP 9 0 rfl rfl hin20 dX7_laySure_102 ?_
    refine lv_iload hx hb dX7_laySure_103 (lv_at hl 0 rfl) ?_
    refine lv_icmp_ne (tgt := 113) hx hb dX7_laySure_105 (by decide) (fun c21 => ?_) (fun c21 => ?_)
    · replace h := md_f c21 h
      refine lv_iconst (v := -1) hx hb dX7_laySure_113 (by decide) ?_
      exact KJ114 (-1 : Int32) h _ _ hP hS ls (lv_sub hl [1, 2, 3, 4] rfl)
    replace h := md_t c21 h
    exact KJ108 () h _ _ hP hS ls (lv_sub hl [1, 2, 3, 4, 0] rfl)
def mlX7_laySure_23 (x1 : Int32) (m_rows : Nat → Int32) (m_cell : Nat → Int32) (kE : (Nat → Int32) → (Nat → Int32) → Option ((Nat → Int32) × (Nat → Int32))) : Nat → Int32 → (Nat → Int32) → (Nat → Int32) → Option ((Nat → Int32) × (Nat → Int32))
  | 0, _, _, _ => none
  | n + 1, x2, m_overs, m_sure => (if (3609 : Int32) ≤ x2 then (kE m_overs m_sure) else (Option.bind (mX7_reads m_rows m_cell m_overs x1 x2) (fun u5 => (if u5.1 = 0 then (md_let (x2 + (1 : Int32)) (fun (x2_7 : Int32) => (mlX7_laySure_23 x1 m_rows m_cell kE n x2_7 u5.2 m_sure))) else (mlX7_laySure_41 x1 x2 m_rows (fun (m_overs_121 : Nat → Int32) (m_sure_121 : Nat → Int32) => (md_let (x2 + (1 : Int32)) (fun (x2_22 : Int32) => (mlX7_laySure_23 x1 m_rows m_cell kE n x2_22 m_overs_121 m_sure_121)))) kN (0 : Int32) u5.2 m_sure)))))
set_option maxHeartbeats 4000000 in
set_option maxRecDepth 100000 in
theorem lX7_laySure_23 {p : Program} {l : Launch} {e : Env} {s : State} {m : MethodId} {args : Array Value} {below : List Frame} {meth : Method} {c : Code} {Q : State → Prop} (C : kc p s m args meth c cX7_laySure 5 RX7 yX7_laySure.name wsX7_laySure none) {D : va_G} {cI cT : ClassId} {mo m_product_a m_place_a m_ofX_a m_ofY_a m_step_a m_rows_a m_cell_a m_overs_a m_sure_a : Nat} (hK : va_K D vwCl (kTy cI cT) s) (hnd : ([mo, m_product_a, m_place_a, m_ofX_a, m_ofY_a, m_step_a, m_rows_a, m_cell_a, m_overs_a, m_sure_a] : List Nat).Nodup) (x1 : Int32) (m_isWorked : Int32) (m_lines : Int32) (m_product : Nat → Int32) (m_place : Nat → Int32) (m_ofX : Nat → Int32) (m_ofY : Nat → Int32) (m_steps : Int32) (m_step : Nat → Int32) (m_rows : Nat → Int32) (m_cell : Nat → Int32) (res : ((Nat → Int32) × (Nat → Int32))) (hQ : ∀ (m_overs : Nat → Int32) (m_sure : Nat → Int32) (H : Heap) (locs : List Loc) (pc : Nat) (ls : Array Slot), some (m_overs, m_sure) = some res → va_P D vwCl [(mo, .inr (4, [.int m_isWorked, .int m_lines, .ref m_product_a, .ref m_place_a, .ref m_ofX_a, .ref m_ofY_a, .int m_steps, .ref m_step_a, .ref m_rows_a, .ref m_cell_a, .ref m_overs_a, .ref m_sure_a])), (m_product_a, .inl (cI, 16, .inl m_product)), (m_place_a, .inl (cI, 16, .inl m_place)), (m_ofX_a, .inl (cI, 16, .inl m_ofX)), (m_ofY_a, .inl (cI, 16, .inl m_ofY)), (m_step_a, .inl (cI, 5, .inl m_step)), (m_rows_a, .inl (cI, 4, .inl m_rows)), (m_cell_a, .inl (cI, 96, .inl m_cell)), (m_overs_a, .inl (cI, 29, .inl m_overs)), (m_sure_a, .inl (cI, 24, .inl m_sure))] H → va_S (fun q => q ∈ ([mo, m_product_a, m_place_a, m_ofX_a, m_ofY_a, m_step_a, m_rows_a, m_cell_a, m_overs_a, m_sure_a] : List Nat)) s.heap H locs → decode cX7_laySure pc = .ok (.return_, 1) → W p l e rmX7_laySure s m args below meth c H locs 0 0 Q (F0 m pc ls [])) (kE : (Nat → Int32) → (Nat → Int32) → Option ((Nat → Int32) × (Nat → Int32))) (hE : ∀ (m_overs : Nat → Int32) (m_sure : Nat → Int32), kE m_overs m_sure = some res → ∀ (H : Heap) (locs : List Loc), va_P D vwCl [(mo, .inr (4, [.int m_isWorked, .int m_lines, .ref m_product_a, .ref m_place_a, .ref m_ofX_a, .ref m_ofY_a, .int m_steps, .ref m_step_a, .ref m_rows_a, .ref m_cell_a, .ref m_overs_a, .ref m_sure_a])), (m_product_a, .inl (cI, 16, .inl m_product)), (m_place_a, .inl (cI, 16, .inl m_place)), (m_ofX_a, .inl (cI, 16, .inl m_ofX)), (m_ofY_a, .inl (cI, 16, .inl m_ofY)), (m_step_a, .inl (cI, 5, .inl m_step)), (m_rows_a, .inl (cI, 4, .inl m_rows)), (m_cell_a, .inl (cI, 96, .inl m_cell)), (m_overs_a, .inl (cI, 29, .inl m_overs)), (m_sure_a, .inl (cI, 24, .inl m_sure))] H → va_S (fun q => q ∈ ([mo, m_product_a, m_place_a, m_ofX_a, m_ofY_a, m_step_a, m_rows_a, m_cell_a, m_overs_a, m_sure_a] : List Nat)) s.heap H locs → ∀ (ls : Array Slot), lv_has ls 5 [] → W p l e rmX7_laySure s m args below meth c H locs 0 0 Q (F0 m 127 ls [])) : ∀ (n : Nat), ∀ (x2 : Int32) (m_overs : Nat → Int32) (m_sure : Nat → Int32), mlX7_laySure_23 x1 m_rows m_cell kE n x2 m_overs m_sure = some res → ∀ (H : Heap) (locs : List Loc), va_P D vwCl [(mo, .inr (4, [.int m_isWorked, .int m_lines, .ref m_product_a, .ref m_place_a, .ref m_ofX_a, .ref m_ofY_a, .int m_steps, .ref m_step_a, .ref m_rows_a, .ref m_cell_a, .ref m_overs_a, .ref m_sure_a])), (m_product_a, .inl (cI, 16, .inl m_product)), (m_place_a, .inl (cI, 16, .inl m_place)), (m_ofX_a, .inl (cI, 16, .inl m_ofX)), (m_ofY_a, .inl (cI, 16, .inl m_ofY)), (m_step_a, .inl (cI, 5, .inl m_step)), (m_rows_a, .inl (cI, 4, .inl m_rows)), (m_cell_a, .inl (cI, 96, .inl m_cell)), (m_overs_a, .inl (cI, 29, .inl m_overs)), (m_sure_a, .inl (cI, 24, .inl m_sure))] H → va_S (fun q => q ∈ ([mo, m_product_a, m_place_a, m_ofX_a, m_ofY_a, m_step_a, m_rows_a, m_cell_a, m_overs_a, m_sure_a] : List Nat)) s.heap H locs → ∀ (ls : Array Slot), lv_has ls 5 [(0, .ref mo), (1, .int x1), (2, .int x2)] → W p l e rmX7_laySure s m args below meth c H locs 0 0 Q (F0 m 23 ls []) := by
  have C0 := C
  obtain ⟨hx, hb, hml, hown, hts, hr, hlk, hnm⟩ := C0
  intro n
  induction n with
  | zero => intro _ _ _ h; exact md_x h
  | succ n ih =>
    intro x2 m_overs m_sure h H locs hP hS ls hl
    rw [mlX7_laySure_23] at h
    refine lv_iload_n hx hb dX7_laySure_23 rfl (lv_at hl 2 rfl) ?_
    refine lv_sipush (v := 3609) hx hb dX7_laySure_24 (by decide) ?_
    refine lv_icmp_ge (tgt := 127) hx hb dX7_laySure_27 (by decide) (fun c4 => ?_) (fun c4 => ?_)
    · replace h := md_t c4 h
      exact hE m_overs m_sure h _ _ hP hS ls (lv_sub hl [] rfl)
    replace h := md_f c4 h
    refine lv_aload_n hx hb dX7_laySure_30 rfl (lv_at hl 0 rfl) ?_
    refine lv_iload_n hx hb dX7_laySure_31 rfl (lv_at hl 1 rfl) ?_
    refine lv_iload_n hx hb dX7_laySure_32 rfl (lv_at hl 2 rfl) ?_
    obtain ⟨u5, hu5, h⟩ := md_b h
    refine kVx C (ctX7_reads l (nd_sub hnd [0, 1, 2, 3, 4, 5, 6, 7, 8, 9] (by decide) rfl) hu5) gX7_laySure_X7_reads rfl kdvX7_reads ⟨rfl, rfl⟩ ⟨by decide, by decide⟩ kW_blind (va_recv hK hP (ci := 4) (q0 := 0) rfl rfl) (kW_use hK (hP.sub (ws' := [(mo, .inr (4, [.int m_isWorked, .int m_lines, .ref m_product_a, .ref m_place_a, .ref m_ofX_a, .ref m_ofY_a, .int m_steps, .ref m_step_a, .ref m_rows_a, .ref m_cell_a, .ref m_overs_a, .ref m_sure_a])), (m_product_a, .inl (cI, 16, .inl m_product)), (m_place_a, .inl (cI, 16, .inl m_place)), (m_ofX_a, .inl (cI, 16, .inl m_ofX)), (m_ofY_a, .inl (cI, 16, .inl m_ofY)), (m_step_a, .inl (cI, 5, .inl m_step)), (m_rows_a, .inl (cI, 4, .inl m_rows)), (m_cell_a, .inl (cI, 96, .inl m_cell)), (m_overs_a, .inl (cI, 29, .inl m_overs)), (m_sure_a, .inl (cI, 24, .inl m_sure))]) [0, 1, 2, 3, 4, 5, 6, 7, 8, 9] rfl) kL_no) rfl hl [] rfl (Nat.le_of_ble_eq_true rfl) dX7_laySure_33 ⟨by decide, by decide⟩ hS (mem_sub [0, 1, 2, 3, 4, 5, 6, 7, 8, 9] rfl) (fun H1 locs hP1 hk1 hS => ?_)
    replace hP : va_P D vwCl [(mo, .inr (4, [.int m_isWorked, .int m_lines, .ref m_product_a, .ref m_place_a, .ref m_ofX_a, .ref m_ofY_a, .int m_steps, .ref m_step_a, .ref m_rows_a, .ref m_cell_a, .ref m_overs_a, .ref m_sure_a])), (m_product_a, .inl (cI, 16, .inl m_product)), (m_place_a, .inl (cI, 16, .inl m_place)), (m_ofX_a, .inl (cI, 16, .inl m_ofX)), (m_ofY_a, .inl (cI, 16, .inl m_ofY)), (m_step_a, .inl (cI, 5, .inl m_step)), (m_rows_a, .inl (cI, 4, .inl m_rows)), (m_cell_a, .inl (cI, 96, .inl m_cell)), (m_overs_a, .inl (cI, 29, .inl u5.2)), (m_sure_a, .inl (cI, 24, .inl m_sure))] H1 := kjoin hnd rfl hP hP1 hk1 [0, 1, 2, 3, 4, 5, 6, 7, 8, 9] rfl [(true, 0), (true, 1), (true, 2), (true, 3), (true, 4), (true, 5), (true, 6), (true, 7), (true, 8), (true, 9)] rfl rfl
    clear hP1 hk1
    generalize H1 = H at hP hS ⊢
    refine lv_if_eq (tgt := 121) hx hb dX7_laySure_36 (by decide) (fun c6 => ?_) (fun c6 => ?_)
    · replace h := md_t c6 h
      obtain ⟨x2_7, ex2_7⟩ : ∃ y : Int32, y = (x2 + (1 : Int32)) := ⟨_, rfl⟩
      replace h := md_le ex2_7 h
      refine lv_iinc (v := x2_7) (lv' := [(2, .int x2_7), (0, .ref mo), (1, .int x1)]) hx hb dX7_laySure_121 hl (k := 2) rfl (by rw [ex2_7]; rfl) (by decide) rfl (fun ls hl => ?_)
      refine lv_goto (tgt := 23) hx hb dX7_laySure_124 (by decide) ?_
      exact ih x2_7 u5.2 m_sure h _ _ hP hS ls (lv_sub hl [1, 2, 0] rfl)
    replace h := md_f c6 h
    refine lv_iconst (v := 0) hx hb dX7_laySure_39 (by decide) ?_
    refine lv_istore_n (lv' := [(3, .int (0 : Int32)), (0, .ref mo), (1, .int x1), (2, .int x2)]) hx hb dX7_laySure_40 rfl hl (by decide) rfl (fun ls hl => ?_)
    refine lX7_laySure_41 (mo := mo) (m_product_a := m_product_a) (m_place_a := m_place_a) (m_ofX_a := m_ofX_a) (m_ofY_a := m_ofY_a) (m_step_a := m_step_a) (m_rows_a := m_rows_a) (m_cell_a := m_cell_a) (m_overs_a := m_overs_a) (m_sure_a := m_sure_a) C hK hnd x1 x2 m_isWorked m_lines m_product m_place m_ofX m_ofY m_steps m_step m_rows m_cell res hQ _ (fun m_overs_121 m_sure_121 h H locs hP hS ls hl => ?_) kN (0 : Int32) u5.2 m_sure h _ _ hP hS ls (lv_sub hl [1, 2, 3, 0] rfl)
    obtain ⟨x2_22, ex2_22⟩ : ∃ y : Int32, y = (x2 + (1 : Int32)) := ⟨_, rfl⟩
    replace h := md_le ex2_22 h
    refine lv_iinc (v := x2_22) (lv' := [(2, .int x2_22), (0, .ref mo), (1, .int x1)]) hx hb dX7_laySure_121 hl (k := 2) rfl (by rw [ex2_22]; rfl) (by decide) rfl (fun ls hl => ?_)
    refine lv_goto (tgt := 23) hx hb dX7_laySure_124 (by decide) ?_
    exact ih x2_22 m_overs_121 m_sure_121 h _ _ hP hS ls (lv_sub hl [1, 2, 0] rfl)
def mX7_laySure (m_rows : Nat → Int32) (m_cell : Nat → Int32) (m_overs : Nat → Int32) (m_sure : Nat → Int32) (p1 : Int32) : Option ((Nat → Int32) × (Nat → Int32)) := (mlX7_laySure_2 (fun (m_sure_21 : Nat → Int32) => (mlX7_laySure_23 p1 m_rows m_cell (fun (m_overs_127 : Nat → Int32) (m_sure_127 : Nat → Int32) => (some (m_overs_127, m_sure_127))) kN (0 : Int32) m_overs m_sure_21)) kN (0 : Int32) m_sure)
set_option maxHeartbeats 4000000 in
set_option maxRecDepth 100000 in
theorem bX7_laySure {p : Program} {l : Launch} {e : Env} {s : State} {m : MethodId} {args : Array Value} {below : List Frame} {meth : Method} {c : Code} {Q : State → Prop} (C : kc p s m args meth c cX7_laySure 5 RX7 yX7_laySure.name wsX7_laySure none) {D : va_G} {cI cT : ClassId} {mo m_product_a m_place_a m_ofX_a m_ofY_a m_step_a m_rows_a m_cell_a m_overs_a m_sure_a : Nat} (p1 : Int32) (hK : va_K D vwCl (kTy cI cT) s) (hnd : ([mo, m_product_a, m_place_a, m_ofX_a, m_ofY_a, m_step_a, m_rows_a, m_cell_a, m_overs_a, m_sure_a] : List Nat).Nodup) (m_isWorked : Int32) (m_lines : Int32) (m_product : Nat → Int32) (m_place : Nat → Int32) (m_ofX : Nat → Int32) (m_ofY : Nat → Int32) (m_steps : Int32) (m_step : Nat → Int32) (m_rows : Nat → Int32) (m_cell : Nat → Int32) (m_overs : Nat → Int32) (m_sure : Nat → Int32) (res : ((Nat → Int32) × (Nat → Int32))) (hQ : ∀ (m_overs : Nat → Int32) (m_sure : Nat → Int32) (H : Heap) (locs : List Loc) (pc : Nat) (ls : Array Slot), some (m_overs, m_sure) = some res → va_P D vwCl [(mo, .inr (4, [.int m_isWorked, .int m_lines, .ref m_product_a, .ref m_place_a, .ref m_ofX_a, .ref m_ofY_a, .int m_steps, .ref m_step_a, .ref m_rows_a, .ref m_cell_a, .ref m_overs_a, .ref m_sure_a])), (m_product_a, .inl (cI, 16, .inl m_product)), (m_place_a, .inl (cI, 16, .inl m_place)), (m_ofX_a, .inl (cI, 16, .inl m_ofX)), (m_ofY_a, .inl (cI, 16, .inl m_ofY)), (m_step_a, .inl (cI, 5, .inl m_step)), (m_rows_a, .inl (cI, 4, .inl m_rows)), (m_cell_a, .inl (cI, 96, .inl m_cell)), (m_overs_a, .inl (cI, 29, .inl m_overs)), (m_sure_a, .inl (cI, 24, .inl m_sure))] H → va_S (fun q => q ∈ ([mo, m_product_a, m_place_a, m_ofX_a, m_ofY_a, m_step_a, m_rows_a, m_cell_a, m_overs_a, m_sure_a] : List Nat)) s.heap H locs → decode cX7_laySure pc = .ok (.return_, 1) → W p l e rmX7_laySure s m args below meth c H locs 0 0 Q (F0 m pc ls [])) : mX7_laySure m_rows m_cell m_overs m_sure p1 = some res → ∀ (H : Heap) (locs : List Loc), va_P D vwCl [(mo, .inr (4, [.int m_isWorked, .int m_lines, .ref m_product_a, .ref m_place_a, .ref m_ofX_a, .ref m_ofY_a, .int m_steps, .ref m_step_a, .ref m_rows_a, .ref m_cell_a, .ref m_overs_a, .ref m_sure_a])), (m_product_a, .inl (cI, 16, .inl m_product)), (m_place_a, .inl (cI, 16, .inl m_place)), (m_ofX_a, .inl (cI, 16, .inl m_ofX)), (m_ofY_a, .inl (cI, 16, .inl m_ofY)), (m_step_a, .inl (cI, 5, .inl m_step)), (m_rows_a, .inl (cI, 4, .inl m_rows)), (m_cell_a, .inl (cI, 96, .inl m_cell)), (m_overs_a, .inl (cI, 29, .inl m_overs)), (m_sure_a, .inl (cI, 24, .inl m_sure))] H → va_S (fun q => q ∈ ([mo, m_product_a, m_place_a, m_ofX_a, m_ofY_a, m_step_a, m_rows_a, m_cell_a, m_overs_a, m_sure_a] : List Nat)) s.heap H locs → ∀ (ls : Array Slot), lv_has ls 5 [(0, .ref mo), (1, .int p1)] → W p l e rmX7_laySure s m args below meth c H locs 0 0 Q (F0 m 0 ls []) := by
  intro h H locs hP hS ls hl
  have C0 := C
  obtain ⟨hx, hb, hml, hown, hts, hr, hlk, hnm⟩ := C0
  rw [mX7_laySure] at h
  refine lv_iconst (v := 0) hx hb dX7_laySure_0 (by decide) ?_
  refine lv_istore_n (lv' := [(2, .int (0 : Int32)), (0, .ref mo), (1, .int p1)]) hx hb dX7_laySure_1 rfl hl (by decide) rfl (fun ls hl => ?_)
  refine lX7_laySure_2 (mo := mo) (m_product_a := m_product_a) (m_place_a := m_place_a) (m_ofX_a := m_ofX_a) (m_ofY_a := m_ofY_a) (m_step_a := m_step_a) (m_rows_a := m_rows_a) (m_cell_a := m_cell_a) (m_overs_a := m_overs_a) (m_sure_a := m_sure_a) C hK hnd p1 m_isWorked m_lines m_product m_place m_ofX m_ofY m_steps m_step m_rows m_cell m_overs res hQ _ (fun m_sure_21 h H locs hP hS ls hl => ?_) kN (0 : Int32) m_sure h _ _ hP hS ls (lv_sub hl [1, 2, 0] rfl)
  refine lv_iconst (v := 0) hx hb dX7_laySure_21 (by decide) ?_
  refine lv_istore_n (lv' := [(2, .int (0 : Int32)), (0, .ref mo), (1, .int p1)]) hx hb dX7_laySure_22 rfl hl (by decide) rfl (fun ls hl => ?_)
  refine lX7_laySure_23 (mo := mo) (m_product_a := m_product_a) (m_place_a := m_place_a) (m_ofX_a := m_ofX_a) (m_ofY_a := m_ofY_a) (m_step_a := m_step_a) (m_rows_a := m_rows_a) (m_cell_a := m_cell_a) (m_overs_a := m_overs_a) (m_sure_a := m_sure_a) C hK hnd p1 m_isWorked m_lines m_product m_place m_ofX m_ofY m_steps m_step m_rows m_cell res hQ _ (fun m_overs_127 m_sure_127 h H locs hP hS ls hl => ?_) kN (0 : Int32) m_overs m_sure_21 h _ _ hP hS ls (lv_sub hl [1, 2, 0] rfl)
  exact hQ m_overs_127 m_sure_127 H locs 127 ls h hP hS dX7_laySure_127
set_option maxHeartbeats 4000000 in
theorem ctX7_laySure (l : Launch) {D : va_G} {cI cT : ClassId} {mo m_product_a m_place_a m_ofX_a m_ofY_a m_step_a m_rows_a m_cell_a m_overs_a m_sure_a : Nat} {m_isWorked : Int32} {m_lines : Int32} {m_product : Nat → Int32} {m_place : Nat → Int32} {m_ofX : Nat → Int32} {m_ofY : Nat → Int32} {m_steps : Int32} {m_step : Nat → Int32} {m_rows : Nat → Int32} {m_cell : Nat → Int32} {m_overs : Nat → Int32} {m_sure : Nat → Int32} {p1 : Int32} {res : ((Nat → Int32) × (Nat → Int32))} (hnd : ([mo, m_product_a, m_place_a, m_ofX_a, m_ofY_a, m_step_a, m_rows_a, m_cell_a, m_overs_a, m_sure_a] : List Nat).Nodup) (hm : mX7_laySure m_rows m_cell m_overs m_sure p1 = some res) : Met l yX7_laySure wsX7_laySure rmX7_laySure (va_Pc [.ref mo, .int p1] (kW D cI cT [(mo, .inr (4, [.int m_isWorked, .int m_lines, .ref m_product_a, .ref m_place_a, .ref m_ofX_a, .ref m_ofY_a, .int m_steps, .ref m_step_a, .ref m_rows_a, .ref m_cell_a, .ref m_overs_a, .ref m_sure_a])), (m_product_a, .inl (cI, 16, .inl m_product)), (m_place_a, .inl (cI, 16, .inl m_place)), (m_ofX_a, .inl (cI, 16, .inl m_ofX)), (m_ofY_a, .inl (cI, 16, .inl m_ofY)), (m_step_a, .inl (cI, 5, .inl m_step)), (m_rows_a, .inl (cI, 4, .inl m_rows)), (m_cell_a, .inl (cI, 96, .inl m_cell)), (m_overs_a, .inl (cI, 29, .inl m_overs)), (m_sure_a, .inl (cI, 24, .inl m_sure))] none (fun q => q ∈ ([mo, m_product_a, m_place_a, m_ofX_a, m_ofY_a, m_step_a, m_rows_a, m_cell_a, m_overs_a, m_sure_a] : List Nat)))) (kX none D [(mo, .inr (4, [.int m_isWorked, .int m_lines, .ref m_product_a, .ref m_place_a, .ref m_ofX_a, .ref m_ofY_a, .int m_steps, .ref m_step_a, .ref m_rows_a, .ref m_cell_a, .ref m_overs_a, .ref m_sure_a])), (m_product_a, .inl (cI, 16, .inl m_product)), (m_place_a, .inl (cI, 16, .inl m_place)), (m_ofX_a, .inl (cI, 16, .inl m_ofX)), (m_ofY_a, .inl (cI, 16, .inl m_ofY)), (m_step_a, .inl (cI, 5, .inl m_step)), (m_rows_a, .inl (cI, 4, .inl m_rows)), (m_cell_a, .inl (cI, 96, .inl m_cell)), (m_overs_a, .inl (cI, 29, .inl res.1)), (m_sure_a, .inl (cI, 24, .inl res.2))] (fun q => q ∈ ([mo, m_product_a, m_place_a, m_ofX_a, m_ofY_a, m_step_a, m_rows_a, m_cell_a, m_overs_a, m_sure_a] : List Nat))) 0 0 (fun q => q ∈ ([mo, m_product_a, m_place_a, m_ofX_a, m_ofY_a, m_step_a, m_rows_a, m_cell_a, m_overs_a, m_sure_a] : List Nat)) :=
  km (by decide) rfl (Nat.le_of_ble_eq_true rfl) (fun p e s m below meth c ls C hB hl => bX7_laySure C p1 hB.1 hnd m_isWorked m_lines m_product m_place m_ofX m_ofY m_steps m_step m_rows m_cell m_overs m_sure res (fun m_overs1 m_sure1 H locs pc ls h hP hS hd => by obtain rfl := Option.some.inj h; exact kx_v C hP hS hd) hm s.heap [] hB.2.1 va_S.rf ls hl)
theorem wm_X7_sure_0 : Cond.fieldLink RX7 34 "SixtyTabletModel" "sure" "[I" ∈ wsX7_sure := by decide +kernel
theorem wi_X7_sure_X7 : ∀ w ∈ wsX70, w ∈ wsX7_sure := by decide +kernel
theorem kdvX7_sure : yX7_sure.cls = RX7 ∧ yX7_sure.cls ≠ "java/lang/invoke/MethodHandle" ∧ yX7_sure.cls ≠ "java/lang/invoke/VarHandle" ∧ (parseMethodDescriptor yX7_sure.desc).map (fun d => d.parameters.length) = some 3 := by decide +kernel
abbrev rmX7_sure : Room := { frames := 8, cells := 0, slots := 0, locals := 192 }
def mX7_sure (m_rows : Nat → Int32) (m_cell : Nat → Int32) (m_overs : Nat → Int32) (m_sure : Nat → Int32) (p1 : Int32) (p2 : Int32) (p3 : Int32) : Option (Int32 × (Nat → Int32) × (Nat → Int32)) := (Option.bind (mX7_isCell m_rows p1 p2 p3) (fun u1 => (if u1 = 0 then (some ((-1 : Int32), m_overs, m_sure)) else (Option.bind (mX7_laySure m_rows m_cell m_overs m_sure p1) (fun u3 => (if (((3 : Int32) * p2) + p3) < 0 ∨ 24 ≤ (Int32.toNatClampNeg (((3 : Int32) * p2) + p3)) then none else (md_let (u3.2 (Int32.toNatClampNeg (((3 : Int32) * p2) + p3))) (fun (x4_5 : Int32) => (if 0 ≤ x4_5 then (some (x4_5, u3.1, u3.2)) else (some ((0 : Int32), u3.1, u3.2)))))))))))
set_option maxHeartbeats 4000000 in
set_option maxRecDepth 100000 in
theorem bX7_sure {p : Program} {l : Launch} {e : Env} {s : State} {m : MethodId} {args : Array Value} {below : List Frame} {meth : Method} {c : Code} {Q : State → Prop} (C : kc p s m args meth c cX7_sure 5 RX7 yX7_sure.name wsX7_sure (some .int)) {D : va_G} {cI cT : ClassId} {mo m_product_a m_place_a m_ofX_a m_ofY_a m_step_a m_rows_a m_cell_a m_overs_a m_sure_a : Nat} (p1 : Int32) (p2 : Int32) (p3 : Int32) (hK : va_K D vwCl (kTy cI cT) s) (hnd : ([mo, m_product_a, m_place_a, m_ofX_a, m_ofY_a, m_step_a, m_rows_a, m_cell_a, m_overs_a, m_sure_a] : List Nat).Nodup) (m_isWorked : Int32) (m_lines : Int32) (m_product : Nat → Int32) (m_place : Nat → Int32) (m_ofX : Nat → Int32) (m_ofY : Nat → Int32) (m_steps : Int32) (m_step : Nat → Int32) (m_rows : Nat → Int32) (m_cell : Nat → Int32) (m_overs : Nat → Int32) (m_sure : Nat → Int32) (res : (Int32 × (Nat → Int32) × (Nat → Int32))) (hQ : ∀ (v : Int32) (m_overs : Nat → Int32) (m_sure : Nat → Int32) (H : Heap) (locs : List Loc) (pc : Nat) (ls : Array Slot), some (v, m_overs, m_sure) = some res → va_P D vwCl [(mo, .inr (4, [.int m_isWorked, .int m_lines, .ref m_product_a, .ref m_place_a, .ref m_ofX_a, .ref m_ofY_a, .int m_steps, .ref m_step_a, .ref m_rows_a, .ref m_cell_a, .ref m_overs_a, .ref m_sure_a])), (m_product_a, .inl (cI, 16, .inl m_product)), (m_place_a, .inl (cI, 16, .inl m_place)), (m_ofX_a, .inl (cI, 16, .inl m_ofX)), (m_ofY_a, .inl (cI, 16, .inl m_ofY)), (m_step_a, .inl (cI, 5, .inl m_step)), (m_rows_a, .inl (cI, 4, .inl m_rows)), (m_cell_a, .inl (cI, 96, .inl m_cell)), (m_overs_a, .inl (cI, 29, .inl m_overs)), (m_sure_a, .inl (cI, 24, .inl m_sure))] H → va_S (fun q => q ∈ ([mo, m_product_a, m_place_a, m_ofX_a, m_ofY_a, m_step_a, m_rows_a, m_cell_a, m_overs_a, m_sure_a] : List Nat)) s.heap H locs → decode cX7_sure pc = .ok (.ireturn, 1) → W p l e rmX7_sure s m args below meth c H locs 0 0 Q (F0 m pc ls [.int v])) : mX7_sure m_rows m_cell m_overs m_sure p1 p2 p3 = some res → ∀ (H : Heap) (locs : List Loc), va_P D vwCl [(mo, .inr (4, [.int m_isWorked, .int m_lines, .ref m_product_a, .ref m_place_a, .ref m_ofX_a, .ref m_ofY_a, .int m_steps, .ref m_step_a, .ref m_rows_a, .ref m_cell_a, .ref m_overs_a, .ref m_sure_a])), (m_product_a, .inl (cI, 16, .inl m_product)), (m_place_a, .inl (cI, 16, .inl m_place)), (m_ofX_a, .inl (cI, 16, .inl m_ofX)), (m_ofY_a, .inl (cI, 16, .inl m_ofY)), (m_step_a, .inl (cI, 5, .inl m_step)), (m_rows_a, .inl (cI, 4, .inl m_rows)), (m_cell_a, .inl (cI, 96, .inl m_cell)), (m_overs_a, .inl (cI, 29, .inl m_overs)), (m_sure_a, .inl (cI, 24, .inl m_sure))] H → va_S (fun q => q ∈ ([mo, m_product_a, m_place_a, m_ofX_a, m_ofY_a, m_step_a, m_rows_a, m_cell_a, m_overs_a, m_sure_a] : List Nat)) s.heap H locs → ∀ (ls : Array Slot), lv_has ls 5 [(0, .ref mo), (1, .int p1), (2, .int p2), (3, .int p3)] → W p l e rmX7_sure s m args below meth c H locs 0 0 Q (F0 m 0 ls []) := by
  intro h H locs hP hS ls hl
  have C0 := C
  obtain ⟨hx, hb, hml, hown, hts, hr, hlk, hnm⟩ := C0
  rw [mX7_sure] at h
  refine lv_aload_n hx hb dX7_sure_0 rfl (lv_at hl 0 rfl) ?_
  refine lv_iload_n hx hb dX7_sure_1 rfl (lv_at hl 1 rfl) ?_
  refine lv_iload_n hx hb dX7_sure_2 rfl (lv_at hl 2 rfl) ?_
  refine lv_iload_n hx hb dX7_sure_3 rfl (lv_at hl 3 rfl) ?_
  obtain ⟨u1, hu1, h⟩ := md_b h
  refine kV C (ctX7_isCell l  hu1) gX7_sure_X7_isCell rfl kdvX7_isCell ⟨rfl, rfl⟩ ⟨by decide, by decide⟩ kW_blind (va_recv hK hP (ci := 4) (q0 := 0) rfl rfl) (kW_use hK (hP.sub (ws' := [(mo, .inr (4, [.int m_isWorked, .int m_lines, .ref m_product_a, .ref m_place_a, .ref m_ofX_a, .ref m_ofY_a, .int m_steps, .ref m_step_a, .ref m_rows_a, .ref m_cell_a, .ref m_overs_a, .ref m_sure_a])), (m_product_a, .inl (cI, 16, .inl m_product)), (m_place_a, .inl (cI, 16, .inl m_place)), (m_ofX_a, .inl (cI, 16, .inl m_ofX)), (m_ofY_a, .inl (cI, 16, .inl m_ofY)), (m_step_a, .inl (cI, 5, .inl m_step)), (m_rows_a, .inl (cI, 4, .inl m_rows)), (m_cell_a, .inl (cI, 96, .inl m_cell)), (m_overs_a, .inl (cI, 29, .inl m_overs)), (m_sure_a, .inl (cI, 24, .inl m_sure))]) [0, 1, 2, 3, 4, 5, 6, 7, 8, 9] rfl) kL_no) rfl hl [] rfl (Nat.le_of_ble_eq_true rfl) dX7_sure_4 ⟨by decide, by decide⟩ ?_
  refine lv_if_ne (tgt := 12) hx hb dX7_sure_7 (by decide) (fun c2 => ?_) (fun c2 => ?_)
  · replace h := md_f c2 h
    refine lv_aload_n hx hb dX7_sure_12 rfl (lv_at hl 0 rfl) ?_
    refine lv_iload_n hx hb dX7_sure_13 rfl (lv_at hl 1 rfl) ?_
    obtain ⟨u3, hu3, h⟩ := md_b h
    refine kVx C (ctX7_laySure l (nd_sub hnd [0, 1, 2, 3, 4, 5, 6, 7, 8, 9] (by decide) rfl) hu3) gX7_sure_X7_laySure rfl kdvX7_laySure ⟨rfl, rfl⟩ ⟨by decide, by decide⟩ kW_blind (va_recv hK hP (ci := 4) (q0 := 0) rfl rfl) (kW_use hK (hP.sub (ws' := [(mo, .inr (4, [.int m_isWorked, .int m_lines, .ref m_product_a, .ref m_place_a, .ref m_ofX_a, .ref m_ofY_a, .int m_steps, .ref m_step_a, .ref m_rows_a, .ref m_cell_a, .ref m_overs_a, .ref m_sure_a])), (m_product_a, .inl (cI, 16, .inl m_product)), (m_place_a, .inl (cI, 16, .inl m_place)), (m_ofX_a, .inl (cI, 16, .inl m_ofX)), (m_ofY_a, .inl (cI, 16, .inl m_ofY)), (m_step_a, .inl (cI, 5, .inl m_step)), (m_rows_a, .inl (cI, 4, .inl m_rows)), (m_cell_a, .inl (cI, 96, .inl m_cell)), (m_overs_a, .inl (cI, 29, .inl m_overs)), (m_sure_a, .inl (cI, 24, .inl m_sure))]) [0, 1, 2, 3, 4, 5, 6, 7, 8, 9] rfl) kL_no) rfl hl [] rfl (Nat.le_of_ble_eq_true rfl) dX7_sure_14 ⟨by decide, by decide⟩ hS (mem_sub [0, 1, 2, 3, 4, 5, 6, 7, 8, 9] rfl) (fun H1 locs hP1 hk1 hS => ?_)
    replace hP : va_P D vwCl [(mo, .inr (4, [.int m_isWorked, .int m_lines, .ref m_product_a, .ref m_place_a, .ref m_ofX_a, .ref m_ofY_a, .int m_steps, .ref m_step_a, .ref m_rows_a, .ref m_cell_a, .ref m_overs_a, .ref m_sure_a])), (m_product_a, .inl (cI, 16, .inl m_product)), (m_place_a, .inl (cI, 16, .inl m_place)), (m_ofX_a, .inl (cI, 16, .inl m_ofX)), (m_ofY_a, .inl (cI, 16, .inl m_ofY)), (m_step_a, .inl (cI, 5, .inl m_step)), (m_rows_a, .inl (cI, 4, .inl m_rows)), (m_cell_a, .inl (cI, 96, .inl m_cell)), (m_overs_a, .inl (cI, 29, .inl u3.1)), (m_sure_a, .inl (cI, 24, .inl u3.2))] H1 := kjoin hnd rfl hP hP1 hk1 [0, 1, 2, 3, 4, 5, 6, 7, 8, 9] rfl [(true, 0), (true, 1), (true, 2), (true, 3), (true, 4), (true, 5), (true, 6), (true, 7), (true, 8), (true, 9)] rfl rfl
    clear hP1 hk1
    generalize H1 = H at hP hS ⊢
    refine lv_aload_n hx hb dX7_sure_17 rfl (lv_at hl 0 rfl) ?_
    refine va_get (D := D) (ci := 4) (v := .ref m_sure_a) (C := RX7) (T := TX7) (N := 12) hx hb hts wi_X7_sure_X7 hown hK hP 0 rfl rfl 11 (by decide) (hts _ wm_X7_sure_0) (fun _ h9 => h9) rfl dX7_sure_18 ?_
    refine lv_iconst (v := 3) hx hb dX7_sure_21 (by decide) ?_
    refine lv_iload_n hx hb dX7_sure_22 rfl (lv_at hl 2 rfl) ?_
    refine lv_imul hx hb dX7_sure_23 ?_
    refine lv_iload_n hx hb dX7_sure_24 rfl (lv_at hl 3 rfl) ?_
    refine lv_iadd hx hb dX7_sure_25 ?_
    obtain ⟨hin4, h⟩ := md_g h
    refine va_iald hx hb hK hP 9 0 rfl rfl hin4 dX7_sure_26 ?_
    refine lv_topi (fun x4_5 ex4_5 => ?_)
    replace h := md_le ex4_5 h
    refine lv_istore (lv' := [(4, .int x4_5), (0, .ref mo), (1, .int p1), (2, .int p2), (3, .int p3)]) hx hb dX7_sure_27 hl (by decide) rfl (fun ls hl => ?_)
    refine lv_iload hx hb dX7_sure_29 (lv_at hl 0 rfl) ?_
    refine lv_if_ge (tgt := 38) hx hb dX7_sure_31 (by decide) (fun c6 => ?_) (fun c6 => ?_)
    · replace h := md_t c6 h
      refine lv_iload hx hb dX7_sure_38 (lv_at hl 0 rfl) ?_
      exact hQ x4_5 u3.1 u3.2 H locs 40 ls h hP hS dX7_sure_40
    replace h := md_f c6 h
    refine lv_iconst (v := 0) hx hb dX7_sure_34 (by decide) ?_
    refine lv_goto (tgt := 40) hx hb dX7_sure_35 (by decide) ?_
    exact hQ (0 : Int32) u3.1 u3.2 H locs 40 ls h hP hS dX7_sure_40
  replace h := md_t c2 h
  refine lv_iconst (v := -1) hx hb dX7_sure_10 (by decide) ?_
  exact hQ (-1 : Int32) m_overs m_sure H locs 11 ls h hP hS dX7_sure_11
set_option maxHeartbeats 4000000 in
theorem ctX7_sure (l : Launch) {D : va_G} {cI cT : ClassId} {mo m_product_a m_place_a m_ofX_a m_ofY_a m_step_a m_rows_a m_cell_a m_overs_a m_sure_a : Nat} {m_isWorked : Int32} {m_lines : Int32} {m_product : Nat → Int32} {m_place : Nat → Int32} {m_ofX : Nat → Int32} {m_ofY : Nat → Int32} {m_steps : Int32} {m_step : Nat → Int32} {m_rows : Nat → Int32} {m_cell : Nat → Int32} {m_overs : Nat → Int32} {m_sure : Nat → Int32} {p1 : Int32} {p2 : Int32} {p3 : Int32} {res : (Int32 × (Nat → Int32) × (Nat → Int32))} (hnd : ([mo, m_product_a, m_place_a, m_ofX_a, m_ofY_a, m_step_a, m_rows_a, m_cell_a, m_overs_a, m_sure_a] : List Nat).Nodup) (hm : mX7_sure m_rows m_cell m_overs m_sure p1 p2 p3 = some res) : Met l yX7_sure wsX7_sure rmX7_sure (va_Pc [.ref mo, .int p1, .int p2, .int p3] (kW D cI cT [(mo, .inr (4, [.int m_isWorked, .int m_lines, .ref m_product_a, .ref m_place_a, .ref m_ofX_a, .ref m_ofY_a, .int m_steps, .ref m_step_a, .ref m_rows_a, .ref m_cell_a, .ref m_overs_a, .ref m_sure_a])), (m_product_a, .inl (cI, 16, .inl m_product)), (m_place_a, .inl (cI, 16, .inl m_place)), (m_ofX_a, .inl (cI, 16, .inl m_ofX)), (m_ofY_a, .inl (cI, 16, .inl m_ofY)), (m_step_a, .inl (cI, 5, .inl m_step)), (m_rows_a, .inl (cI, 4, .inl m_rows)), (m_cell_a, .inl (cI, 96, .inl m_cell)), (m_overs_a, .inl (cI, 29, .inl m_overs)), (m_sure_a, .inl (cI, 24, .inl m_sure))] none (fun q => q ∈ ([mo, m_product_a, m_place_a, m_ofX_a, m_ofY_a, m_step_a, m_rows_a, m_cell_a, m_overs_a, m_sure_a] : List Nat)))) (kX (some (.int res.1)) D [(mo, .inr (4, [.int m_isWorked, .int m_lines, .ref m_product_a, .ref m_place_a, .ref m_ofX_a, .ref m_ofY_a, .int m_steps, .ref m_step_a, .ref m_rows_a, .ref m_cell_a, .ref m_overs_a, .ref m_sure_a])), (m_product_a, .inl (cI, 16, .inl m_product)), (m_place_a, .inl (cI, 16, .inl m_place)), (m_ofX_a, .inl (cI, 16, .inl m_ofX)), (m_ofY_a, .inl (cI, 16, .inl m_ofY)), (m_step_a, .inl (cI, 5, .inl m_step)), (m_rows_a, .inl (cI, 4, .inl m_rows)), (m_cell_a, .inl (cI, 96, .inl m_cell)), (m_overs_a, .inl (cI, 29, .inl res.2.1)), (m_sure_a, .inl (cI, 24, .inl res.2.2))] (fun q => q ∈ ([mo, m_product_a, m_place_a, m_ofX_a, m_ofY_a, m_step_a, m_rows_a, m_cell_a, m_overs_a, m_sure_a] : List Nat))) 0 0 (fun q => q ∈ ([mo, m_product_a, m_place_a, m_ofX_a, m_ofY_a, m_step_a, m_rows_a, m_cell_a, m_overs_a, m_sure_a] : List Nat)) :=
  km (by decide) rfl (Nat.le_of_ble_eq_true rfl) (fun p e s m below meth c ls C hB hl => bX7_sure C p1 p2 p3 hB.1 hnd m_isWorked m_lines m_product m_place m_ofX m_ofY m_steps m_step m_rows m_cell m_overs m_sure res (fun v m_overs1 m_sure1 H locs pc ls h hP hS hd => by obtain rfl := Option.some.inj h; exact kx_i C hP hS hd) hm s.heap [] hB.2.1 va_S.rf ls hl)
theorem wm_X7_fill_0 : Cond.fieldLink RX7 25 "SixtyTabletModel" "rows" "[I" ∈ wsX7_fill := by decide +kernel
theorem wm_X7_fill_1 : Cond.fieldLink RX7 28 "SixtyTabletModel" "cell" "[I" ∈ wsX7_fill := by decide +kernel
theorem wm_X7_fill_2 : Cond.fieldLink RX7 34 "SixtyTabletModel" "sure" "[I" ∈ wsX7_fill := by decide +kernel
theorem wi_X7_fill_X7 : ∀ w ∈ wsX70, w ∈ wsX7_fill := by decide +kernel
theorem kdvX7_fill : yX7_fill.cls = RX7 ∧ yX7_fill.cls ≠ "java/lang/invoke/MethodHandle" ∧ yX7_fill.cls ≠ "java/lang/invoke/VarHandle" ∧ (parseMethodDescriptor yX7_fill.desc).map (fun d => d.parameters.length) = some 1 := by decide +kernel
abbrev rmX7_fill : Room := { frames := 8, cells := 0, slots := 0, locals := 192 }
def mlX7_fill_18 (x1 : Int32) (m_rows : Nat → Int32) (m_sure : Nat → Int32) (kE : Int32 → (Nat → Int32) → Option (Int32 × (Nat → Int32) × (Nat → Int32) × (Nat → Int32))) : Nat → Int32 → Int32 → (Nat → Int32) → Option (Int32 × (Nat → Int32) × (Nat → Int32) × (Nat → Int32))
  | 0, _, _, _ => none
  | n + 1, x2, x3, m_cell => (if x1 < 0 ∨ 4 ≤ (Int32.toNatClampNeg x1) then none else (if ((3 : Int32) * (m_rows (Int32.toNatClampNeg x1))) ≤ x3 then (kE x2 m_cell) else (if (((24 : Int32) * x1) + x3) < 0 ∨ 96 ≤ (Int32.toNatClampNeg (((24 : Int32) * x1) + x3)) then none else (md_jn (fun (x2_73 : Int32) (m_cell_73 : Nat → Int32) => (md_let (x3 + (1 : Int32)) (fun (x3_7 : Int32) => (mlX7_fill_18 x1 m_rows m_sure kE n x2_73 x3_7 m_cell_73)))) (fun kJ73 => (if (m_cell (Int32.toNatClampNeg (((24 : Int32) * x1) + x3))) = 0 then (if x3 < 0 ∨ 24 ≤ (Int32.toNatClampNeg x3) then none else (if (m_sure (Int32.toNatClampNeg x3)) ≤ 0 then (kJ73 x2 m_cell) else (if x3 < 0 ∨ 24 ≤ (Int32.toNatClampNeg x3) then none else (if (((24 : Int32) * x1) + x3) < 0 ∨ 96 ≤ (Int32.toNatClampNeg (((24 : Int32) * x1) + x3)) then none else (md_let (upd m_cell (Int32.toNatClampNeg (((24 : Int32) * x1) + x3)) (m_sure (Int32.toNatClampNeg x3))) (fun (m_cell_12 : Nat → Int32) => (md_let (x2 + (1 : Int32)) (fun (x2_13 : Int32) => (kJ73 x2_13 m_cell_12))))))))) else (kJ73 x2 m_cell)))))))
set_option maxHeartbeats 4000000 in
set_option maxRecDepth 100000 in
theorem lX7_fill_18 {p : Program} {l : Launch} {e : Env} {s : State} {m : MethodId} {args : Array Value} {below : List Frame} {meth : Method} {c : Code} {Q : State → Prop} (C : kc p s m args meth c cX7_fill 4 RX7 yX7_fill.name wsX7_fill (some .int)) {D : va_G} {cI cT : ClassId} {mo m_product_a m_place_a m_ofX_a m_ofY_a m_step_a m_rows_a m_cell_a m_overs_a m_sure_a : Nat} (hK : va_K D vwCl (kTy cI cT) s) (hnd : ([mo, m_product_a, m_place_a, m_ofX_a, m_ofY_a, m_step_a, m_rows_a, m_cell_a, m_overs_a, m_sure_a] : List Nat).Nodup) (x1 : Int32) (m_isWorked : Int32) (m_lines : Int32) (m_product : Nat → Int32) (m_place : Nat → Int32) (m_ofX : Nat → Int32) (m_ofY : Nat → Int32) (m_steps : Int32) (m_step : Nat → Int32) (m_rows : Nat → Int32) (m_overs : Nat → Int32) (m_sure : Nat → Int32) (res : (Int32 × (Nat → Int32) × (Nat → Int32) × (Nat → Int32))) (hQ : ∀ (v : Int32) (m_cell : Nat → Int32) (m_overs : Nat → Int32) (m_sure : Nat → Int32) (H : Heap) (locs : List Loc) (pc : Nat) (ls : Array Slot), some (v, m_cell, m_overs, m_sure) = some res → va_P D vwCl [(mo, .inr (4, [.int m_isWorked, .int m_lines, .ref m_product_a, .ref m_place_a, .ref m_ofX_a, .ref m_ofY_a, .int m_steps, .ref m_step_a, .ref m_rows_a, .ref m_cell_a, .ref m_overs_a, .ref m_sure_a])), (m_product_a, .inl (cI, 16, .inl m_product)), (m_place_a, .inl (cI, 16, .inl m_place)), (m_ofX_a, .inl (cI, 16, .inl m_ofX)), (m_ofY_a, .inl (cI, 16, .inl m_ofY)), (m_step_a, .inl (cI, 5, .inl m_step)), (m_rows_a, .inl (cI, 4, .inl m_rows)), (m_cell_a, .inl (cI, 96, .inl m_cell)), (m_overs_a, .inl (cI, 29, .inl m_overs)), (m_sure_a, .inl (cI, 24, .inl m_sure))] H → va_S (fun q => q ∈ ([mo, m_product_a, m_place_a, m_ofX_a, m_ofY_a, m_step_a, m_rows_a, m_cell_a, m_overs_a, m_sure_a] : List Nat)) s.heap H locs → decode cX7_fill pc = .ok (.ireturn, 1) → W p l e rmX7_fill s m args below meth c H locs 0 0 Q (F0 m pc ls [.int v])) (kE : Int32 → (Nat → Int32) → Option (Int32 × (Nat → Int32) × (Nat → Int32) × (Nat → Int32))) (hE : ∀ (y2 : Int32) (m_cell : Nat → Int32), kE y2 m_cell = some res → ∀ (H : Heap) (locs : List Loc), va_P D vwCl [(mo, .inr (4, [.int m_isWorked, .int m_lines, .ref m_product_a, .ref m_place_a, .ref m_ofX_a, .ref m_ofY_a, .int m_steps, .ref m_step_a, .ref m_rows_a, .ref m_cell_a, .ref m_overs_a, .ref m_sure_a])), (m_product_a, .inl (cI, 16, .inl m_product)), (m_place_a, .inl (cI, 16, .inl m_place)), (m_ofX_a, .inl (cI, 16, .inl m_ofX)), (m_ofY_a, .inl (cI, 16, .inl m_ofY)), (m_step_a, .inl (cI, 5, .inl m_step)), (m_rows_a, .inl (cI, 4, .inl m_rows)), (m_cell_a, .inl (cI, 96, .inl m_cell)), (m_overs_a, .inl (cI, 29, .inl m_overs)), (m_sure_a, .inl (cI, 24, .inl m_sure))] H → va_S (fun q => q ∈ ([mo, m_product_a, m_place_a, m_ofX_a, m_ofY_a, m_step_a, m_rows_a, m_cell_a, m_overs_a, m_sure_a] : List Nat)) s.heap H locs → ∀ (ls : Array Slot), lv_has ls 4 [(2, .int y2)] → W p l e rmX7_fill s m args below meth c H locs 0 0 Q (F0 m 79 ls [])) : ∀ (n : Nat), ∀ (x2 : Int32) (x3 : Int32) (m_cell : Nat → Int32), mlX7_fill_18 x1 m_rows m_sure kE n x2 x3 m_cell = some res → ∀ (H : Heap) (locs : List Loc), va_P D vwCl [(mo, .inr (4, [.int m_isWorked, .int m_lines, .ref m_product_a, .ref m_place_a, .ref m_ofX_a, .ref m_ofY_a, .int m_steps, .ref m_step_a, .ref m_rows_a, .ref m_cell_a, .ref m_overs_a, .ref m_sure_a])), (m_product_a, .inl (cI, 16, .inl m_product)), (m_place_a, .inl (cI, 16, .inl m_place)), (m_ofX_a, .inl (cI, 16, .inl m_ofX)), (m_ofY_a, .inl (cI, 16, .inl m_ofY)), (m_step_a, .inl (cI, 5, .inl m_step)), (m_rows_a, .inl (cI, 4, .inl m_rows)), (m_cell_a, .inl (cI, 96, .inl m_cell)), (m_overs_a, .inl (cI, 29, .inl m_overs)), (m_sure_a, .inl (cI, 24, .inl m_sure))] H → va_S (fun q => q ∈ ([mo, m_product_a, m_place_a, m_ofX_a, m_ofY_a, m_step_a, m_rows_a, m_cell_a, m_overs_a, m_sure_a] : List Nat)) s.heap H locs → ∀ (ls : Array Slot), lv_has ls 4 [(0, .ref mo), (1, .int x1), (2, .int x2), (3, .int x3)] → W p l e rmX7_fill s m args below meth c H locs 0 0 Q (F0 m 18 ls []) := by
  have C0 := C
  obtain ⟨hx, hb, hml, hown, hts, hr, hlk, hnm⟩ := C0
  intro n
  induction n with
  | zero => intro _ _ _ h; exact md_x h
  | succ n ih =>
    intro x2 x3 m_cell h H locs hP hS ls hl
    rw [mlX7_fill_18] at h
    refine lv_iload_n hx hb dX7_fill_18 rfl (lv_at hl 3 rfl) ?_
    refine lv_iconst (v := 3) hx hb dX7_fill_19 (by decide) ?_
    refine lv_aload_n hx hb dX7_fill_20 rfl (lv_at hl 0 rfl) ?_
    refine va_get (D := D) (ci := 4) (v := .ref m_rows_a) (C := RX7) (T := TX7) (N := 12) hx hb hts wi_X7_fill_X7 hown hK hP 0 rfl rfl 8 (by decide) (hts _ wm_X7_fill_0) (fun _ h9 => h9) rfl dX7_fill_21 ?_
    refine lv_iload_n hx hb dX7_fill_24 rfl (lv_at hl 1 rfl) ?_
    obtain ⟨hin4, h⟩ := md_g h
    refine va_iald hx hb hK hP 6 0 rfl rfl hin4 dX7_fill_25 ?_
    refine lv_imul hx hb dX7_fill_26 ?_
    refine lv_icmp_ge (tgt := 79) hx hb dX7_fill_27 (by decide) (fun c5 => ?_) (fun c5 => ?_)
    · replace h := md_t c5 h
      exact hE x2 m_cell h _ _ hP hS ls (lv_sub hl [2] rfl)
    replace h := md_f c5 h
    refine lv_aload_n hx hb dX7_fill_30 rfl (lv_at hl 0 rfl) ?_
    refine va_get (D := D) (ci := 4) (v := .ref m_cell_a) (C := RX7) (T := TX7) (N := 12) hx hb hts wi_X7_fill_X7 hown hK hP 0 rfl rfl 9 (by decide) (hts _ wm_X7_fill_1) (fun _ h9 => h9) rfl dX7_fill_31 ?_
    refine lv_bipush (v := 24) hx hb dX7_fill_34 (by decide) ?_
    refine lv_iload_n hx hb dX7_fill_36 rfl (lv_at hl 1 rfl) ?_
    refine lv_imul hx hb dX7_fill_37 ?_
    refine lv_iload_n hx hb dX7_fill_38 rfl (lv_at hl 3 rfl) ?_
    refine lv_iadd hx hb dX7_fill_39 ?_
    obtain ⟨hin6, h⟩ := md_g h
    refine va_iald hx hb hK hP 7 0 rfl rfl hin6 dX7_fill_40 ?_
    obtain ⟨kJ73, ekJ73, h⟩ := md_jo h
    have KJ73 : ∀ (x2_73 : Int32) (m_cell_73 : Nat → Int32), kJ73 x2_73 m_cell_73 = some res → ∀ (H : Heap) (locs : List Loc), va_P D vwCl [(mo, .inr (4, [.int m_isWorked, .int m_lines, .ref m_product_a, .ref m_place_a, .ref m_ofX_a, .ref m_ofY_a, .int m_steps, .ref m_step_a, .ref m_rows_a, .ref m_cell_a, .ref m_overs_a, .ref m_sure_a])), (m_product_a, .inl (cI, 16, .inl m_product)), (m_place_a, .inl (cI, 16, .inl m_place)), (m_ofX_a, .inl (cI, 16, .inl m_ofX)), (m_ofY_a, .inl (cI, 16, .inl m_ofY)), (m_step_a, .inl (cI, 5, .inl m_step)), (m_rows_a, .inl (cI, 4, .inl m_rows)), (m_cell_a, .inl (cI, 96, .inl m_cell_73)), (m_overs_a, .inl (cI, 29, .inl m_overs)), (m_sure_a, .inl (cI, 24, .inl m_sure))] H → va_S (fun q => q ∈ ([mo, m_product_a, m_place_a, m_ofX_a, m_ofY_a, m_step_a, m_rows_a, m_cell_a, m_overs_a, m_sure_a] : List Nat)) s.heap H locs → ∀ (ls : Array Slot), lv_has ls 4 [(0, .ref mo), (1, .int x1), (2, .int x2_73), (3, .int x3)] → W p l e rmX7_fill s m args below meth c H locs 0 0 Q (F0 m 73 ls []) := by
      intro x2_73 m_cell_73 h H locs hP hS ls hl
      rw [ekJ73] at h
      obtain ⟨x3_7, ex3_7⟩ : ∃ y : Int32, y = (x3 + (1 : Int32)) := ⟨_, rfl⟩
      replace h := md_le ex3_7 h
      refine lv_iinc (v := x3_7) (lv' := [(3, .int x3_7), (0, .ref mo), (1, .int x1), (2, .int x2_73)]) hx hb dX7_fill_73 hl (k := 3) rfl (by rw [ex3_7]; rfl) (by decide) rfl (fun ls hl => ?_)
      refine lv_goto (tgt := 18) hx hb dX7_fill_76 (by decide) ?_
      exact ih x2_73 x3_7 m_cell_73 h _ _ hP hS ls (lv_sub hl [1, 2, 3, 0] rfl)
    clear ekJ73
    refine lv_if_ne (tgt := 73) hx hb dX7_fill_41 (by decide) (fun c8 => ?_) (fun c8 => ?_)
    · replace h := md_f c8 h
      exact KJ73 x2 m_cell h _ _ hP hS ls (lv_sub hl [0, 1, 2, 3] rfl)
    replace h := md_t c8 h
    refine lv_aload_n hx hb dX7_fill_44 rfl (lv_at hl 0 rfl) ?_
    refine va_get (D := D) (ci := 4) (v := .ref m_sure_a) (C := RX7) (T := TX7) (N := 12) hx hb hts wi_X7_fill_X7 hown hK hP 0 rfl rfl 11 (by decide) (hts _ wm_X7_fill_2) (fun _ h9 => h9) rfl dX7_fill_45 ?_
    refine lv_iload_n hx hb dX7_fill_48 rfl (lv_at hl 3 rfl) ?_
    obtain ⟨hin9, h⟩ := md_g h
    refine va_iald hx hb hK hP 9 0 rfl rfl hin9 dX7_fill_49 ?_
    refine lv_if_le (tgt := 73) hx hb dX7_fill_50 (by decide) (fun c10 => ?_) (fun c10 => ?_)
    · replace h := md_t c10 h
      exact KJ73 x2 m_cell h _ _ hP hS ls (lv_sub hl [0, 1, 2, 3] rfl)
    replace h := md_f c10 h
    refine lv_aload_n hx hb dX7_fill_53 rfl (lv_at hl 0 rfl) ?_
    refine va_get (D := D) (ci := 4) (v := .ref m_cell_a) (C := RX7) (T := TX7) (N := 12) hx hb hts wi_X7_fill_X7 hown hK hP 0 rfl rfl 9 (by decide) (hts _ wm_X7_fill_1) (fun _ h9 => h9) rfl dX7_fill_54 ?_
    refine lv_bipush (v := 24) hx hb dX7_fill_57 (by decide) ?_
    refine lv_iload_n hx hb dX7_fill_59 rfl (lv_at hl 1 rfl) ?_
    refine lv_imul hx hb dX7_fill_60 ?_
    refine lv_iload_n hx hb dX7_fill_61 rfl (lv_at hl 3 rfl) ?_
    refine lv_iadd hx hb dX7_fill_62 ?_
    refine lv_aload_n hx hb dX7_fill_63 rfl (lv_at hl 0 rfl) ?_
    refine va_get (D := D) (ci := 4) (v := .ref m_sure_a) (C := RX7) (T := TX7) (N := 12) hx hb hts wi_X7_fill_X7 hown hK hP 0 rfl rfl 11 (by decide) (hts _ wm_X7_fill_2) (fun _ h9 => h9) rfl dX7_fill_64 ?_
    refine lv_iload_n hx hb dX7_fill_67 rfl (lv_at hl 3 rfl) ?_
    obtain ⟨hin11, h⟩ := md_g h
    refine va_iald hx hb hK hP 9 0 rfl rfl hin11 dX7_fill_68 ?_
    obtain ⟨hin12, h⟩ := md_g h
    refine va_iast hx hb hK hP (kD hnd rfl) hS 7 0 rfl rfl hin12 dX7_fill_69 (fun H locs hP _ hS => ?_)
    have hP : va_P D vwCl [(mo, .inr (4, [.int m_isWorked, .int m_lines, .ref m_product_a, .ref m_place_a, .ref m_ofX_a, .ref m_ofY_a, .int m_steps, .ref m_step_a, .ref m_rows_a, .ref m_cell_a, .ref m_overs_a, .ref m_sure_a])), (m_product_a, .inl (cI, 16, .inl m_product)), (m_place_a, .inl (cI, 16, .inl m_place)), (m_ofX_a, .inl (cI, 16, .inl m_ofX)), (m_ofY_a, .inl (cI, 16, .inl m_ofY)), (m_step_a, .inl (cI, 5, .inl m_step)), (m_rows_a, .inl (cI, 4, .inl m_rows)), (m_cell_a, .inl (cI, 96, .inl (upd m_cell (Int32.toNatClampNeg (((24 : Int32) * x1) + x3)) (m_sure (Int32.toNatClampNeg x3))))), (m_overs_a, .inl (cI, 29, .inl m_overs)), (m_sure_a, .inl (cI, 24, .inl m_sure))] H := hP
    obtain ⟨m_cell_12, em_cell_12⟩ : ∃ y : Nat → Int32, y = (upd m_cell (Int32.toNatClampNeg (((24 : Int32) * x1) + x3)) (m_sure (Int32.toNatClampNeg x3))) := ⟨_, rfl⟩
    replace h := md_le em_cell_12 h
    rw [← em_cell_12] at hP
    obtain ⟨x2_13, ex2_13⟩ : ∃ y : Int32, y = (x2 + (1 : Int32)) := ⟨_, rfl⟩
    replace h := md_le ex2_13 h
    refine lv_iinc (v := x2_13) (lv' := [(2, .int x2_13), (0, .ref mo), (1, .int x1), (3, .int x3)]) hx hb dX7_fill_70 hl (k := 2) rfl (by rw [ex2_13]; rfl) (by decide) rfl (fun ls hl => ?_)
    exact KJ73 x2_13 m_cell_12 h _ _ hP hS ls (lv_sub hl [1, 2, 0, 3] rfl)
def mX7_fill (m_rows : Nat → Int32) (m_cell : Nat → Int32) (m_overs : Nat → Int32) (m_sure : Nat → Int32) (p1 : Int32) : Option (Int32 × (Nat → Int32) × (Nat → Int32) × (Nat → Int32)) := (Option.bind (mX7_isTablet p1) (fun u1 => (if u1 = 0 then (some ((-1 : Int32), m_cell, m_overs, m_sure)) else (Option.bind (mX7_laySure m_rows m_cell m_overs m_sure p1) (fun u3 => (mlX7_fill_18 p1 m_rows u3.2 (fun (y2_79 : Int32) (m_cell_79 : Nat → Int32) => (some (y2_79, m_cell_79, u3.1, u3.2))) kN (0 : Int32) (0 : Int32) m_cell))))))
set_option maxHeartbeats 4000000 in
set_option maxRecDepth 100000 in
theorem bX7_fill {p : Program} {l : Launch} {e : Env} {s : State} {m : MethodId} {args : Array Value} {below : List Frame} {meth : Method} {c : Code} {Q : State → Prop} (C : kc p s m args meth c cX7_fill 4 RX7 yX7_fill.name wsX7_fill (some .int)) {D : va_G} {cI cT : ClassId} {mo m_product_a m_place_a m_ofX_a m_ofY_a m_step_a m_rows_a m_cell_a m_overs_a m_sure_a : Nat} (p1 : Int32) (hK : va_K D vwCl (kTy cI cT) s) (hnd : ([mo, m_product_a, m_place_a, m_ofX_a, m_ofY_a, m_step_a, m_rows_a, m_cell_a, m_overs_a, m_sure_a] : List Nat).Nodup) (m_isWorked : Int32) (m_lines : Int32) (m_product : Nat → Int32) (m_place : Nat → Int32) (m_ofX : Nat → Int32) (m_ofY : Nat → Int32) (m_steps : Int32) (m_step : Nat → Int32) (m_rows : Nat → Int32) (m_cell : Nat → Int32) (m_overs : Nat → Int32) (m_sure : Nat → Int32) (res : (Int32 × (Nat → Int32) × (Nat → Int32) × (Nat → Int32))) (hQ : ∀ (v : Int32) (m_cell : Nat → Int32) (m_overs : Nat → Int32) (m_sure : Nat → Int32) (H : Heap) (locs : List Loc) (pc : Nat) (ls : Array Slot), some (v, m_cell, m_overs, m_sure) = some res → va_P D vwCl [(mo, .inr (4, [.int m_isWorked, .int m_lines, .ref m_product_a, .ref m_place_a, .ref m_ofX_a, .ref m_ofY_a, .int m_steps, .ref m_step_a, .ref m_rows_a, .ref m_cell_a, .ref m_overs_a, .ref m_sure_a])), (m_product_a, .inl (cI, 16, .inl m_product)), (m_place_a, .inl (cI, 16, .inl m_place)), (m_ofX_a, .inl (cI, 16, .inl m_ofX)), (m_ofY_a, .inl (cI, 16, .inl m_ofY)), (m_step_a, .inl (cI, 5, .inl m_step)), (m_rows_a, .inl (cI, 4, .inl m_rows)), (m_cell_a, .inl (cI, 96, .inl m_cell)), (m_overs_a, .inl (cI, 29, .inl m_overs)), (m_sure_a, .inl (cI, 24, .inl m_sure))] H → va_S (fun q => q ∈ ([mo, m_product_a, m_place_a, m_ofX_a, m_ofY_a, m_step_a, m_rows_a, m_cell_a, m_overs_a, m_sure_a] : List Nat)) s.heap H locs → decode cX7_fill pc = .ok (.ireturn, 1) → W p l e rmX7_fill s m args below meth c H locs 0 0 Q (F0 m pc ls [.int v])) : mX7_fill m_rows m_cell m_overs m_sure p1 = some res → ∀ (H : Heap) (locs : List Loc), va_P D vwCl [(mo, .inr (4, [.int m_isWorked, .int m_lines, .ref m_product_a, .ref m_place_a, .ref m_ofX_a, .ref m_ofY_a, .int m_steps, .ref m_step_a, .ref m_rows_a, .ref m_cell_a, .ref m_overs_a, .ref m_sure_a])), (m_product_a, .inl (cI, 16, .inl m_product)), (m_place_a, .inl (cI, 16, .inl m_place)), (m_ofX_a, .inl (cI, 16, .inl m_ofX)), (m_ofY_a, .inl (cI, 16, .inl m_ofY)), (m_step_a, .inl (cI, 5, .inl m_step)), (m_rows_a, .inl (cI, 4, .inl m_rows)), (m_cell_a, .inl (cI, 96, .inl m_cell)), (m_overs_a, .inl (cI, 29, .inl m_overs)), (m_sure_a, .inl (cI, 24, .inl m_sure))] H → va_S (fun q => q ∈ ([mo, m_product_a, m_place_a, m_ofX_a, m_ofY_a, m_step_a, m_rows_a, m_cell_a, m_overs_a, m_sure_a] : List Nat)) s.heap H locs → ∀ (ls : Array Slot), lv_has ls 4 [(0, .ref mo), (1, .int p1)] → W p l e rmX7_fill s m args below meth c H locs 0 0 Q (F0 m 0 ls []) := by
  intro h H locs hP hS ls hl
  have C0 := C
  obtain ⟨hx, hb, hml, hown, hts, hr, hlk, hnm⟩ := C0
  rw [mX7_fill] at h
  refine lv_iload_n hx hb dX7_fill_0 rfl (lv_at hl 1 rfl) ?_
  obtain ⟨u1, hu1, h⟩ := md_b h
  refine kS C (ctX7_isTablet l  hu1) gX7_fill_X7_isTablet rfl kdX7_isTablet ⟨rfl, rfl⟩ ⟨by decide, by decide⟩ kT_blind (fun _ _ _ => trivial) rfl hl [] rfl (Nat.le_of_ble_eq_true rfl) dX7_fill_1 ⟨by decide, by decide⟩ ?_
  refine lv_if_ne (tgt := 9) hx hb dX7_fill_4 (by decide) (fun c2 => ?_) (fun c2 => ?_)
  · replace h := md_f c2 h
    refine lv_aload_n hx hb dX7_fill_9 rfl (lv_at hl 0 rfl) ?_
    refine lv_iload_n hx hb dX7_fill_10 rfl (lv_at hl 1 rfl) ?_
    obtain ⟨u3, hu3, h⟩ := md_b h
    refine kVx C (ctX7_laySure l (nd_sub hnd [0, 1, 2, 3, 4, 5, 6, 7, 8, 9] (by decide) rfl) hu3) gX7_fill_X7_laySure rfl kdvX7_laySure ⟨rfl, rfl⟩ ⟨by decide, by decide⟩ kW_blind (va_recv hK hP (ci := 4) (q0 := 0) rfl rfl) (kW_use hK (hP.sub (ws' := [(mo, .inr (4, [.int m_isWorked, .int m_lines, .ref m_product_a, .ref m_place_a, .ref m_ofX_a, .ref m_ofY_a, .int m_steps, .ref m_step_a, .ref m_rows_a, .ref m_cell_a, .ref m_overs_a, .ref m_sure_a])), (m_product_a, .inl (cI, 16, .inl m_product)), (m_place_a, .inl (cI, 16, .inl m_place)), (m_ofX_a, .inl (cI, 16, .inl m_ofX)), (m_ofY_a, .inl (cI, 16, .inl m_ofY)), (m_step_a, .inl (cI, 5, .inl m_step)), (m_rows_a, .inl (cI, 4, .inl m_rows)), (m_cell_a, .inl (cI, 96, .inl m_cell)), (m_overs_a, .inl (cI, 29, .inl m_overs)), (m_sure_a, .inl (cI, 24, .inl m_sure))]) [0, 1, 2, 3, 4, 5, 6, 7, 8, 9] rfl) kL_no) rfl hl [] rfl (Nat.le_of_ble_eq_true rfl) dX7_fill_11 ⟨by decide, by decide⟩ hS (mem_sub [0, 1, 2, 3, 4, 5, 6, 7, 8, 9] rfl) (fun H1 locs hP1 hk1 hS => ?_)
    replace hP : va_P D vwCl [(mo, .inr (4, [.int m_isWorked, .int m_lines, .ref m_product_a, .ref m_place_a, .ref m_ofX_a, .ref m_ofY_a, .int m_steps, .ref m_step_a, .ref m_rows_a, .ref m_cell_a, .ref m_overs_a, .ref m_sure_a])), (m_product_a, .inl (cI, 16, .inl m_product)), (m_place_a, .inl (cI, 16, .inl m_place)), (m_ofX_a, .inl (cI, 16, .inl m_ofX)), (m_ofY_a, .inl (cI, 16, .inl m_ofY)), (m_step_a, .inl (cI, 5, .inl m_step)), (m_rows_a, .inl (cI, 4, .inl m_rows)), (m_cell_a, .inl (cI, 96, .inl m_cell)), (m_overs_a, .inl (cI, 29, .inl u3.1)), (m_sure_a, .inl (cI, 24, .inl u3.2))] H1 := kjoin hnd rfl hP hP1 hk1 [0, 1, 2, 3, 4, 5, 6, 7, 8, 9] rfl [(true, 0), (true, 1), (true, 2), (true, 3), (true, 4), (true, 5), (true, 6), (true, 7), (true, 8), (true, 9)] rfl rfl
    clear hP1 hk1
    generalize H1 = H at hP hS ⊢
    refine lv_iconst (v := 0) hx hb dX7_fill_14 (by decide) ?_
    refine lv_istore_n (lv' := [(2, .int (0 : Int32)), (0, .ref mo), (1, .int p1)]) hx hb dX7_fill_15 rfl hl (by decide) rfl (fun ls hl => ?_)
    refine lv_iconst (v := 0) hx hb dX7_fill_16 (by decide) ?_
    refine lv_istore_n (lv' := [(3, .int (0 : Int32)), (2, .int (0 : Int32)), (0, .ref mo), (1, .int p1)]) hx hb dX7_fill_17 rfl hl (by decide) rfl (fun ls hl => ?_)
    refine lX7_fill_18 (mo := mo) (m_product_a := m_product_a) (m_place_a := m_place_a) (m_ofX_a := m_ofX_a) (m_ofY_a := m_ofY_a) (m_step_a := m_step_a) (m_rows_a := m_rows_a) (m_cell_a := m_cell_a) (m_overs_a := m_overs_a) (m_sure_a := m_sure_a) C hK hnd p1 m_isWorked m_lines m_product m_place m_ofX m_ofY m_steps m_step m_rows u3.1 u3.2 res hQ _ (fun y2_79 m_cell_79 h H locs hP hS ls hl => ?_) kN (0 : Int32) (0 : Int32) m_cell h _ _ hP hS ls (lv_sub hl [2, 3, 1, 0] rfl)
    refine lv_iload_n hx hb dX7_fill_79 rfl (lv_at hl 0 rfl) ?_
    exact hQ y2_79 m_cell_79 u3.1 u3.2 H locs 80 ls h hP hS dX7_fill_80
  replace h := md_t c2 h
  refine lv_iconst (v := -1) hx hb dX7_fill_7 (by decide) ?_
  exact hQ (-1 : Int32) m_cell m_overs m_sure H locs 8 ls h hP hS dX7_fill_8
set_option maxHeartbeats 4000000 in
theorem ctX7_fill (l : Launch) {D : va_G} {cI cT : ClassId} {mo m_product_a m_place_a m_ofX_a m_ofY_a m_step_a m_rows_a m_cell_a m_overs_a m_sure_a : Nat} {m_isWorked : Int32} {m_lines : Int32} {m_product : Nat → Int32} {m_place : Nat → Int32} {m_ofX : Nat → Int32} {m_ofY : Nat → Int32} {m_steps : Int32} {m_step : Nat → Int32} {m_rows : Nat → Int32} {m_cell : Nat → Int32} {m_overs : Nat → Int32} {m_sure : Nat → Int32} {p1 : Int32} {res : (Int32 × (Nat → Int32) × (Nat → Int32) × (Nat → Int32))} (hnd : ([mo, m_product_a, m_place_a, m_ofX_a, m_ofY_a, m_step_a, m_rows_a, m_cell_a, m_overs_a, m_sure_a] : List Nat).Nodup) (hm : mX7_fill m_rows m_cell m_overs m_sure p1 = some res) : Met l yX7_fill wsX7_fill rmX7_fill (va_Pc [.ref mo, .int p1] (kW D cI cT [(mo, .inr (4, [.int m_isWorked, .int m_lines, .ref m_product_a, .ref m_place_a, .ref m_ofX_a, .ref m_ofY_a, .int m_steps, .ref m_step_a, .ref m_rows_a, .ref m_cell_a, .ref m_overs_a, .ref m_sure_a])), (m_product_a, .inl (cI, 16, .inl m_product)), (m_place_a, .inl (cI, 16, .inl m_place)), (m_ofX_a, .inl (cI, 16, .inl m_ofX)), (m_ofY_a, .inl (cI, 16, .inl m_ofY)), (m_step_a, .inl (cI, 5, .inl m_step)), (m_rows_a, .inl (cI, 4, .inl m_rows)), (m_cell_a, .inl (cI, 96, .inl m_cell)), (m_overs_a, .inl (cI, 29, .inl m_overs)), (m_sure_a, .inl (cI, 24, .inl m_sure))] none (fun q => q ∈ ([mo, m_product_a, m_place_a, m_ofX_a, m_ofY_a, m_step_a, m_rows_a, m_cell_a, m_overs_a, m_sure_a] : List Nat)))) (kX (some (.int res.1)) D [(mo, .inr (4, [.int m_isWorked, .int m_lines, .ref m_product_a, .ref m_place_a, .ref m_ofX_a, .ref m_ofY_a, .int m_steps, .ref m_step_a, .ref m_rows_a, .ref m_cell_a, .ref m_overs_a, .ref m_sure_a])), (m_product_a, .inl (cI, 16, .inl m_product)), (m_place_a, .inl (cI, 16, .inl m_place)), (m_ofX_a, .inl (cI, 16, .inl m_ofX)), (m_ofY_a, .inl (cI, 16, .inl m_ofY)), (m_step_a, .inl (cI, 5, .inl m_step)), (m_rows_a, .inl (cI, 4, .inl m_rows)), (m_cell_a, .inl (cI, 96, .inl res.2.1)), (m_overs_a, .inl (cI, 29, .inl res.2.2.1)), (m_sure_a, .inl (cI, 24, .inl res.2.2.2))] (fun q => q ∈ ([mo, m_product_a, m_place_a, m_ofX_a, m_ofY_a, m_step_a, m_rows_a, m_cell_a, m_overs_a, m_sure_a] : List Nat))) 0 0 (fun q => q ∈ ([mo, m_product_a, m_place_a, m_ofX_a, m_ofY_a, m_step_a, m_rows_a, m_cell_a, m_overs_a, m_sure_a] : List Nat)) :=
  km (by decide) rfl (Nat.le_of_ble_eq_true rfl) (fun p e s m below meth c ls C hB hl => bX7_fill C p1 hB.1 hnd m_isWorked m_lines m_product m_place m_ofX m_ofY m_steps m_step m_rows m_cell m_overs m_sure res (fun v m_cell1 m_overs1 m_sure1 H locs pc ls h hP hS hd => by obtain rfl := Option.some.inj h; exact kx_i C hP hS hd) hm s.heap [] hB.2.1 va_S.rf ls hl)
theorem kdvX7_odd : yX7_odd.cls = RX7 ∧ yX7_odd.cls ≠ "java/lang/invoke/MethodHandle" ∧ yX7_odd.cls ≠ "java/lang/invoke/VarHandle" ∧ (parseMethodDescriptor yX7_odd.desc).map (fun d => d.parameters.length) = some 1 := by decide +kernel
abbrev rmX7_odd : Room := { frames := 6, cells := 0, slots := 0, locals := 146 }
def mlX7_odd_14 (x1 : Int32) (m_rows : Nat → Int32) (m_cell : Nat → Int32) (kE : Int32 → (Nat → Int32) → Option (Int32 × (Nat → Int32))) : Nat → Int32 → Int32 → (Nat → Int32) → Option (Int32 × (Nat → Int32))
  | 0, _, _, _ => none
  | n + 1, x2, x3, m_overs => (if (3609 : Int32) ≤ x3 then (kE x2 m_overs) else (Option.bind (mX7_fits m_rows x1 x3) (fun u4 => (md_jn (fun (x2_82 : Int32) (m_overs_82 : Nat → Int32) => (md_let (x3 + (1 : Int32)) (fun (x3_5 : Int32) => (mlX7_odd_14 x1 m_rows m_cell kE n x2_82 x3_5 m_overs_82)))) (fun kJ82 => (if u4 = 0 then (kJ82 x2 m_overs) else (Option.bind (mX7_kindOf x3) (fun u7 => (Option.bind (mX7_nOf x3) (fun u8 => (Option.bind (mX7_firstOf x3) (fun u9 => (Option.bind (mX7_unlike m_rows m_cell m_overs x1 u7 u8 u9) (fun u10 => (if (100 : Int32) ≤ u10.1 then (md_jn (fun (z0_81 : Int32) => (kJ82 z0_81 u10.2)) (fun kJ81 => (md_jn (fun (u_80 : Unit) => (kJ81 x2)) (fun kJ80 => (if 0 ≤ x2 then (kJ80 ()) else (if (u10.1 / (100 : Int32)) = (1 : Int32) then (kJ81 (u10.1 - u10.1 / (100 : Int32) * (100 : Int32))) else (kJ80 ()))))))) else (some ((-6 : Int32), u10.2)))))))))))))))))
set_option maxHeartbeats 4000000 in
set_option maxRecDepth 100000 in
theorem lX7_odd_14 {p : Program} {l : Launch} {e : Env} {s : State} {m : MethodId} {args : Array Value} {below : List Frame} {meth : Method} {c : Code} {Q : State → Prop} (C : kc p s m args meth c cX7_odd 5 RX7 yX7_odd.name wsX7_odd (some .int)) {D : va_G} {cI cT : ClassId} {mo m_product_a m_place_a m_ofX_a m_ofY_a m_step_a m_rows_a m_cell_a m_overs_a m_sure_a : Nat} (hK : va_K D vwCl (kTy cI cT) s) (hnd : ([mo, m_product_a, m_place_a, m_ofX_a, m_ofY_a, m_step_a, m_rows_a, m_cell_a, m_overs_a, m_sure_a] : List Nat).Nodup) (x1 : Int32) (m_isWorked : Int32) (m_lines : Int32) (m_product : Nat → Int32) (m_place : Nat → Int32) (m_ofX : Nat → Int32) (m_ofY : Nat → Int32) (m_steps : Int32) (m_step : Nat → Int32) (m_rows : Nat → Int32) (m_cell : Nat → Int32) (m_sure : Nat → Int32) (res : (Int32 × (Nat → Int32))) (hQ : ∀ (v : Int32) (m_overs : Nat → Int32) (H : Heap) (locs : List Loc) (pc : Nat) (ls : Array Slot), some (v, m_overs) = some res → va_P D vwCl [(mo, .inr (4, [.int m_isWorked, .int m_lines, .ref m_product_a, .ref m_place_a, .ref m_ofX_a, .ref m_ofY_a, .int m_steps, .ref m_step_a, .ref m_rows_a, .ref m_cell_a, .ref m_overs_a, .ref m_sure_a])), (m_product_a, .inl (cI, 16, .inl m_product)), (m_place_a, .inl (cI, 16, .inl m_place)), (m_ofX_a, .inl (cI, 16, .inl m_ofX)), (m_ofY_a, .inl (cI, 16, .inl m_ofY)), (m_step_a, .inl (cI, 5, .inl m_step)), (m_rows_a, .inl (cI, 4, .inl m_rows)), (m_cell_a, .inl (cI, 96, .inl m_cell)), (m_overs_a, .inl (cI, 29, .inl m_overs)), (m_sure_a, .inl (cI, 24, .inl m_sure))] H → va_S (fun q => q ∈ ([mo, m_product_a, m_place_a, m_ofX_a, m_ofY_a, m_step_a, m_rows_a, m_cell_a, m_overs_a, m_sure_a] : List Nat)) s.heap H locs → decode cX7_odd pc = .ok (.ireturn, 1) → W p l e rmX7_odd s m args below meth c H locs 0 0 Q (F0 m pc ls [.int v])) (kE : Int32 → (Nat → Int32) → Option (Int32 × (Nat → Int32))) (hE : ∀ (y2 : Int32) (m_overs : Nat → Int32), kE y2 m_overs = some res → ∀ (H : Heap) (locs : List Loc), va_P D vwCl [(mo, .inr (4, [.int m_isWorked, .int m_lines, .ref m_product_a, .ref m_place_a, .ref m_ofX_a, .ref m_ofY_a, .int m_steps, .ref m_step_a, .ref m_rows_a, .ref m_cell_a, .ref m_overs_a, .ref m_sure_a])), (m_product_a, .inl (cI, 16, .inl m_product)), (m_place_a, .inl (cI, 16, .inl m_place)), (m_ofX_a, .inl (cI, 16, .inl m_ofX)), (m_ofY_a, .inl (cI, 16, .inl m_ofY)), (m_step_a, .inl (cI, 5, .inl m_step)), (m_rows_a, .inl (cI, 4, .inl m_rows)), (m_cell_a, .inl (cI, 96, .inl m_cell)), (m_overs_a, .inl (cI, 29, .inl m_overs)), (m_sure_a, .inl (cI, 24, .inl m_sure))] H → va_S (fun q => q ∈ ([mo, m_product_a, m_place_a, m_ofX_a, m_ofY_a, m_step_a, m_rows_a, m_cell_a, m_overs_a, m_sure_a] : List Nat)) s.heap H locs → ∀ (ls : Array Slot), lv_has ls 5 [(2, .int y2)] → W p l e rmX7_odd s m args below meth c H locs 0 0 Q (F0 m 88 ls [])) : ∀ (n : Nat), ∀ (x2 : Int32) (x3 : Int32) (m_overs : Nat → Int32), mlX7_odd_14 x1 m_rows m_cell kE n x2 x3 m_overs = some res → ∀ (H : Heap) (locs : List Loc), va_P D vwCl [(mo, .inr (4, [.int m_isWorked, .int m_lines, .ref m_product_a, .ref m_place_a, .ref m_ofX_a, .ref m_ofY_a, .int m_steps, .ref m_step_a, .ref m_rows_a, .ref m_cell_a, .ref m_overs_a, .ref m_sure_a])), (m_product_a, .inl (cI, 16, .inl m_product)), (m_place_a, .inl (cI, 16, .inl m_place)), (m_ofX_a, .inl (cI, 16, .inl m_ofX)), (m_ofY_a, .inl (cI, 16, .inl m_ofY)), (m_step_a, .inl (cI, 5, .inl m_step)), (m_rows_a, .inl (cI, 4, .inl m_rows)), (m_cell_a, .inl (cI, 96, .inl m_cell)), (m_overs_a, .inl (cI, 29, .inl m_overs)), (m_sure_a, .inl (cI, 24, .inl m_sure))] H → va_S (fun q => q ∈ ([mo, m_product_a, m_place_a, m_ofX_a, m_ofY_a, m_step_a, m_rows_a, m_cell_a, m_overs_a, m_sure_a] : List Nat)) s.heap H locs → ∀ (ls : Array Slot), lv_has ls 5 [(0, .ref mo), (1, .int x1), (2, .int x2), (3, .int x3)] → W p l e rmX7_odd s m args below meth c H locs 0 0 Q (F0 m 14 ls []) := by
  have C0 := C
  obtain ⟨hx, hb, hml, hown, hts, hr, hlk, hnm⟩ := C0
  intro n
  induction n with
  | zero => intro _ _ _ h; exact md_x h
  | succ n ih =>
    intro x2 x3 m_overs h H locs hP hS ls hl
    rw [mlX7_odd_14] at h
    refine lv_iload_n hx hb dX7_odd_14 rfl (lv_at hl 3 rfl) ?_
    refine lv_sipush (v := 3609) hx hb dX7_odd_15 (by decide) ?_
    refine lv_icmp_ge (tgt := 88) hx hb dX7_odd_18 (by decide) (fun c3 => ?_) (fun c3 => ?_)
    · replace h := md_t c3 h
      exact hE x2 m_overs h _ _ hP hS ls (lv_sub hl [2] rfl)
    replace h := md_f c3 h
    refine lv_aload_n hx hb dX7_odd_21 rfl (lv_at hl 0 rfl) ?_
    refine lv_iload_n hx hb dX7_odd_22 rfl (lv_at hl 1 rfl) ?_
    refine lv_iload_n hx hb dX7_odd_23 rfl (lv_at hl 3 rfl) ?_
    obtain ⟨u4, hu4, h⟩ := md_b h
    refine kV C (ctX7_fits l  hu4) gX7_odd_X7_fits rfl kdvX7_fits ⟨rfl, rfl⟩ ⟨by decide, by decide⟩ kW_blind (va_recv hK hP (ci := 4) (q0 := 0) rfl rfl) (kW_use hK (hP.sub (ws' := [(mo, .inr (4, [.int m_isWorked, .int m_lines, .ref m_product_a, .ref m_place_a, .ref m_ofX_a, .ref m_ofY_a, .int m_steps, .ref m_step_a, .ref m_rows_a, .ref m_cell_a, .ref m_overs_a, .ref m_sure_a])), (m_product_a, .inl (cI, 16, .inl m_product)), (m_place_a, .inl (cI, 16, .inl m_place)), (m_ofX_a, .inl (cI, 16, .inl m_ofX)), (m_ofY_a, .inl (cI, 16, .inl m_ofY)), (m_step_a, .inl (cI, 5, .inl m_step)), (m_rows_a, .inl (cI, 4, .inl m_rows)), (m_cell_a, .inl (cI, 96, .inl m_cell)), (m_overs_a, .inl (cI, 29, .inl m_overs)), (m_sure_a, .inl (cI, 24, .inl m_sure))]) [0, 1, 2, 3, 4, 5, 6, 7, 8, 9] rfl) kL_no) rfl hl [] rfl (Nat.le_of_ble_eq_true rfl) dX7_odd_24 ⟨by decide, by decide⟩ ?_
    obtain ⟨kJ82, ekJ82, h⟩ := md_jo h
    have KJ82 : ∀ (x2_82 : Int32) (m_overs_82 : Nat → Int32), kJ82 x2_82 m_overs_82 = some res → ∀ (H : Heap) (locs : List Loc), va_P D vwCl [(mo, .inr (4, [.int m_isWorked, .int m_lines, .ref m_product_a, .ref m_place_a, .ref m_ofX_a, .ref m_ofY_a, .int m_steps, .ref m_step_a, .ref m_rows_a, .ref m_cell_a, .ref m_overs_a, .ref m_sure_a])), (m_product_a, .inl (cI, 16, .inl m_product)), (m_place_a, .inl (cI, 16, .inl m_place)), (m_ofX_a, .inl (cI, 16, .inl m_ofX)), (m_ofY_a, .inl (cI, 16, .inl m_ofY)), (m_step_a, .inl (cI, 5, .inl m_step)), (m_rows_a, .inl (cI, 4, .inl m_rows)), (m_cell_a, .inl (cI, 96, .inl m_cell)), (m_overs_a, .inl (cI, 29, .inl m_overs_82)), (m_sure_a, .inl (cI, 24, .inl m_sure))] H → va_S (fun q => q ∈ ([mo, m_product_a, m_place_a, m_ofX_a, m_ofY_a, m_step_a, m_rows_a, m_cell_a, m_overs_a, m_sure_a] : List Nat)) s.heap H locs → ∀ (ls : Array Slot), lv_has ls 5 [(0, .ref mo), (1, .int x1), (2, .int x2_82), (3, .int x3)] → W p l e rmX7_odd s m args below meth c H locs 0 0 Q (F0 m 82 ls []) := by
      intro x2_82 m_overs_82 h H locs hP hS ls hl
      rw [ekJ82] at h
      obtain ⟨x3_5, ex3_5⟩ : ∃ y : Int32, y = (x3 + (1 : Int32)) := ⟨_, rfl⟩
      replace h := md_le ex3_5 h
      refine lv_iinc (v := x3_5) (lv' := [(3, .int x3_5), (0, .ref mo), (1, .int x1), (2, .int x2_82)]) hx hb dX7_odd_82 hl (k := 3) rfl (by rw [ex3_5]; rfl) (by decide) rfl (fun ls hl => ?_)
      refine lv_goto (tgt := 14) hx hb dX7_odd_85 (by decide) ?_
      exact ih x2_82 x3_5 m_overs_82 h _ _ hP hS ls (lv_sub hl [1, 2, 3, 0] rfl)
    clear ekJ82
    refine lv_if_eq (tgt := 82) hx hb dX7_odd_27 (by decide) (fun c6 => ?_) (fun c6 => ?_)
    · replace h := md_t c6 h
      exact KJ82 x2 m_overs h _ _ hP hS ls (lv_sub hl [0, 1, 2, 3] rfl)
    replace h := md_f c6 h
    refine lv_aload_n hx hb dX7_odd_30 rfl (lv_at hl 0 rfl) ?_
    refine lv_iload_n hx hb dX7_odd_31 rfl (lv_at hl 1 rfl) ?_
    refine lv_iload_n hx hb dX7_odd_32 rfl (lv_at hl 3 rfl) ?_
    obtain ⟨u7, hu7, h⟩ := md_b h
    refine kS C (ctX7_kindOf l  hu7) gX7_odd_X7_kindOf rfl kdX7_kindOf ⟨rfl, rfl⟩ ⟨by decide, by decide⟩ kT_blind (fun _ _ _ => trivial) rfl hl [.int x1, .ref mo] rfl (Nat.le_of_ble_eq_true rfl) dX7_odd_33 ⟨by decide, by decide⟩ ?_
    refine lv_iload_n hx hb dX7_odd_36 rfl (lv_at hl 3 rfl) ?_
    obtain ⟨u8, hu8, h⟩ := md_b h
    refine kS C (ctX7_nOf l  hu8) gX7_odd_X7_nOf rfl kdX7_nOf ⟨rfl, rfl⟩ ⟨by decide, by decide⟩ kT_blind (fun _ _ _ => trivial) rfl hl [.int u7, .int x1, .ref mo] rfl (Nat.le_of_ble_eq_true rfl) dX7_odd_37 ⟨by decide, by decide⟩ ?_
    refine lv_iload_n hx hb dX7_odd_40 rfl (lv_at hl 3 rfl) ?_
    obtain ⟨u9, hu9, h⟩ := md_b h
    refine kS C (ctX7_firstOf l  hu9) gX7_odd_X7_firstOf rfl kdX7_firstOf ⟨rfl, rfl⟩ ⟨by decide, by decide⟩ kT_blind (fun _ _ _ => trivial) rfl hl [.int u8, .int u7, .int x1, .ref mo] rfl (Nat.le_of_ble_eq_true rfl) dX7_odd_41 ⟨by decide, by decide⟩ ?_
    obtain ⟨u10, hu10, h⟩ := md_b h
    refine kVx C (ctX7_unlike l (nd_sub hnd [0, 1, 2, 3, 4, 5, 6, 7, 8, 9] (by decide) rfl) hu10) gX7_odd_X7_unlike rfl kdvX7_unlike ⟨rfl, rfl⟩ ⟨by decide, by decide⟩ kW_blind (va_recv hK hP (ci := 4) (q0 := 0) rfl rfl) (kW_use hK (hP.sub (ws' := [(mo, .inr (4, [.int m_isWorked, .int m_lines, .ref m_product_a, .ref m_place_a, .ref m_ofX_a, .ref m_ofY_a, .int m_steps, .ref m_step_a, .ref m_rows_a, .ref m_cell_a, .ref m_overs_a, .ref m_sure_a])), (m_product_a, .inl (cI, 16, .inl m_product)), (m_place_a, .inl (cI, 16, .inl m_place)), (m_ofX_a, .inl (cI, 16, .inl m_ofX)), (m_ofY_a, .inl (cI, 16, .inl m_ofY)), (m_step_a, .inl (cI, 5, .inl m_step)), (m_rows_a, .inl (cI, 4, .inl m_rows)), (m_cell_a, .inl (cI, 96, .inl m_cell)), (m_overs_a, .inl (cI, 29, .inl m_overs)), (m_sure_a, .inl (cI, 24, .inl m_sure))]) [0, 1, 2, 3, 4, 5, 6, 7, 8, 9] rfl) kL_no) rfl hl [] rfl (Nat.le_of_ble_eq_true rfl) dX7_odd_44 ⟨by decide, by decide⟩ hS (mem_sub [0, 1, 2, 3, 4, 5, 6, 7, 8, 9] rfl) (fun H1 locs hP1 hk1 hS => ?_)
    replace hP : va_P D vwCl [(mo, .inr (4, [.int m_isWorked, .int m_lines, .ref m_product_a, .ref m_place_a, .ref m_ofX_a, .ref m_ofY_a, .int m_steps, .ref m_step_a, .ref m_rows_a, .ref m_cell_a, .ref m_overs_a, .ref m_sure_a])), (m_product_a, .inl (cI, 16, .inl m_product)), (m_place_a, .inl (cI, 16, .inl m_place)), (m_ofX_a, .inl (cI, 16, .inl m_ofX)), (m_ofY_a, .inl (cI, 16, .inl m_ofY)), (m_step_a, .inl (cI, 5, .inl m_step)), (m_rows_a, .inl (cI, 4, .inl m_rows)), (m_cell_a, .inl (cI, 96, .inl m_cell)), (m_overs_a, .inl (cI, 29, .inl u10.2)), (m_sure_a, .inl (cI, 24, .inl m_sure))] H1 := kjoin hnd rfl hP hP1 hk1 [0, 1, 2, 3, 4, 5, 6, 7, 8, 9] rfl [(true, 0), (true, 1), (true, 2), (true, 3), (true, 4), (true, 5), (true, 6), (true, 7), (true, 8), (true, 9)] rfl rfl
    clear hP1 hk1
    generalize H1 = H at hP hS ⊢
    refine lv_istore (lv' := [(4, .int u10.1), (0, .ref mo), (1, .int x1), (2, .int x2), (3, .int x3)]) hx hb dX7_odd_47 hl (by decide) rfl (fun ls hl => ?_)
    refine lv_iload hx hb dX7_odd_49 (lv_at hl 0 rfl) ?_
    refine lv_bipush (v := 100) hx hb dX7_odd_51 (by decide) ?_
    refine lv_icmp_ge (tgt := 59) hx hb dX7_odd_53 (by decide) (fun c11 => ?_) (fun c11 => ?_)
    · replace h := md_t c11 h
      refine lv_iload_n hx hb dX7_odd_59 rfl (lv_at hl 3 rfl) ?_
      obtain ⟨kJ81, ekJ81, h⟩ := md_jo h
      have KJ81 : ∀ (z0_81 : Int32), kJ81 z0_81 = some res → ∀ (H : Heap) (locs : List Loc), va_P D vwCl [(mo, .inr (4, [.int m_isWorked, .int m_lines, .ref m_product_a, .ref m_place_a, .ref m_ofX_a, .ref m_ofY_a, .int m_steps, .ref m_step_a, .ref m_rows_a, .ref m_cell_a, .ref m_overs_a, .ref m_sure_a])), (m_product_a, .inl (cI, 16, .inl m_product)), (m_place_a, .inl (cI, 16, .inl m_place)), (m_ofX_a, .inl (cI, 16, .inl m_ofX)), (m_ofY_a, .inl (cI, 16, .inl m_ofY)), (m_step_a, .inl (cI, 5, .inl m_step)), (m_rows_a, .inl (cI, 4, .inl m_rows)), (m_cell_a, .inl (cI, 96, .inl m_cell)), (m_overs_a, .inl (cI, 29, .inl u10.2)), (m_sure_a, .inl (cI, 24, .inl m_sure))] H → va_S (fun q => q ∈ ([mo, m_product_a, m_place_a, m_ofX_a, m_ofY_a, m_step_a, m_rows_a, m_cell_a, m_overs_a, m_sure_a] : List Nat)) s.heap H locs → ∀ (ls : Array Slot), lv_has ls 5 [(0, .ref mo), (1, .int x1), (3, .int x3)] → W p l e rmX7_odd s m args below meth c H locs 0 0 Q (F0 m 81 ls [.int z0_81]) := by
        intro z0_81 h H locs hP hS ls hl
        rw [ekJ81] at h
        refine lv_istore_n (lv' := [(2, .int z0_81), (0, .ref mo), (1, .int x1), (3, .int x3)]) hx hb dX7_odd_81 rfl hl (by decide) rfl (fun ls hl => ?_)
        exact KJ82 z0_81 u10.2 h _ _ hP hS ls (lv_sub hl [1, 2, 0, 3] rfl)
      clear ekJ81
      obtain ⟨kJ80, ekJ80, h⟩ := md_jo h
      have KJ80 : ∀ (u_80 : Unit), kJ80 u_80 = some res → ∀ (H : Heap) (locs : List Loc), va_P D vwCl [(mo, .inr (4, [.int m_isWorked, .int m_lines, .ref m_product_a, .ref m_place_a, .ref m_ofX_a, .ref m_ofY_a, .int m_steps, .ref m_step_a, .ref m_rows_a, .ref m_cell_a, .ref m_overs_a, .ref m_sure_a])), (m_product_a, .inl (cI, 16, .inl m_product)), (m_place_a, .inl (cI, 16, .inl m_place)), (m_ofX_a, .inl (cI, 16, .inl m_ofX)), (m_ofY_a, .inl (cI, 16, .inl m_ofY)), (m_step_a, .inl (cI, 5, .inl m_step)), (m_rows_a, .inl (cI, 4, .inl m_rows)), (m_cell_a, .inl (cI, 96, .inl m_cell)), (m_overs_a, .inl (cI, 29, .inl u10.2)), (m_sure_a, .inl (cI, 24, .inl m_sure))] H → va_S (fun q => q ∈ ([mo, m_product_a, m_place_a, m_ofX_a, m_ofY_a, m_step_a, m_rows_a, m_cell_a, m_overs_a, m_sure_a] : List Nat)) s.heap H locs → ∀ (ls : Array Slot), lv_has ls 5 [(0, .ref mo), (1, .int x1), (2, .int x2), (3, .int x3)] → W p l e rmX7_odd s m args below meth c H locs 0 0 Q (F0 m 80 ls []) := by
        intro u_80 h H locs hP hS ls hl
        rw [ekJ80] at h
        refine lv_iload_n hx hb dX7_odd_80 rfl (lv_at hl 2 rfl) ?_
        exact KJ81 x2 h _ _ hP hS ls (lv_sub hl [0, 1, 3] rfl)
      clear ekJ80
      refine lv_if_ge (tgt := 80) hx hb dX7_odd_60 (by decide) (fun c12 => ?_) (fun c12 => ?_)
      · replace h := md_t c12 h
        exact KJ80 () h _ _ hP hS ls (lv_sub hl [1, 2, 3, 4] rfl)
      replace h := md_f c12 h
      refine lv_iload hx hb dX7_odd_63 (lv_at hl 0 rfl) ?_
      refine lv_bipush (v := 100) hx hb dX7_odd_65 (by decide) ?_
      refine lv_idiv hx hb dX7_odd_67 (by decide) ?_
      refine lv_iconst (v := 1) hx hb dX7_odd_68 (by decide) ?_
      refine lv_icmp_ne (tgt := 80) hx hb dX7_odd_69 (by decide) (fun c13 => ?_) (fun c13 => ?_)
      · replace h := md_f c13 h
        exact KJ80 () h _ _ hP hS ls (lv_sub hl [1, 2, 3, 4] rfl)
      replace h := md_t c13 h
      refine lv_iload hx hb dX7_odd_72 (lv_at hl 0 rfl) ?_
      refine lv_bipush (v := 100) hx hb dX7_odd_74 (by decide) ?_
      refine lv_irem hx hb dX7_odd_76 (by decide) ?_
      refine lv_goto (tgt := 81) hx hb dX7_odd_77 (by decide) ?_
      exact KJ81 (u10.1 - u10.1 / (100 : Int32) * (100 : Int32)) h _ _ hP hS ls (lv_sub hl [1, 2, 4] rfl)
    replace h := md_f c11 h
    refine lv_bipush (v := -6) hx hb dX7_odd_56 (by decide) ?_
    exact hQ (-6 : Int32) u10.2 H locs 58 ls h hP hS dX7_odd_58
def mX7_odd (m_rows : Nat → Int32) (m_cell : Nat → Int32) (m_overs : Nat → Int32) (p1 : Int32) : Option (Int32 × (Nat → Int32)) := (Option.bind (mX7_isTablet p1) (fun u1 => (if u1 = 0 then (some ((-1 : Int32), m_overs)) else (mlX7_odd_14 p1 m_rows m_cell (fun (y2_88 : Int32) (m_overs_88 : Nat → Int32) => (some (y2_88, m_overs_88))) kN (-6 : Int32) (0 : Int32) m_overs))))
set_option maxHeartbeats 4000000 in
set_option maxRecDepth 100000 in
theorem bX7_odd {p : Program} {l : Launch} {e : Env} {s : State} {m : MethodId} {args : Array Value} {below : List Frame} {meth : Method} {c : Code} {Q : State → Prop} (C : kc p s m args meth c cX7_odd 5 RX7 yX7_odd.name wsX7_odd (some .int)) {D : va_G} {cI cT : ClassId} {mo m_product_a m_place_a m_ofX_a m_ofY_a m_step_a m_rows_a m_cell_a m_overs_a m_sure_a : Nat} (p1 : Int32) (hK : va_K D vwCl (kTy cI cT) s) (hnd : ([mo, m_product_a, m_place_a, m_ofX_a, m_ofY_a, m_step_a, m_rows_a, m_cell_a, m_overs_a, m_sure_a] : List Nat).Nodup) (m_isWorked : Int32) (m_lines : Int32) (m_product : Nat → Int32) (m_place : Nat → Int32) (m_ofX : Nat → Int32) (m_ofY : Nat → Int32) (m_steps : Int32) (m_step : Nat → Int32) (m_rows : Nat → Int32) (m_cell : Nat → Int32) (m_overs : Nat → Int32) (m_sure : Nat → Int32) (res : (Int32 × (Nat → Int32))) (hQ : ∀ (v : Int32) (m_overs : Nat → Int32) (H : Heap) (locs : List Loc) (pc : Nat) (ls : Array Slot), some (v, m_overs) = some res → va_P D vwCl [(mo, .inr (4, [.int m_isWorked, .int m_lines, .ref m_product_a, .ref m_place_a, .ref m_ofX_a, .ref m_ofY_a, .int m_steps, .ref m_step_a, .ref m_rows_a, .ref m_cell_a, .ref m_overs_a, .ref m_sure_a])), (m_product_a, .inl (cI, 16, .inl m_product)), (m_place_a, .inl (cI, 16, .inl m_place)), (m_ofX_a, .inl (cI, 16, .inl m_ofX)), (m_ofY_a, .inl (cI, 16, .inl m_ofY)), (m_step_a, .inl (cI, 5, .inl m_step)), (m_rows_a, .inl (cI, 4, .inl m_rows)), (m_cell_a, .inl (cI, 96, .inl m_cell)), (m_overs_a, .inl (cI, 29, .inl m_overs)), (m_sure_a, .inl (cI, 24, .inl m_sure))] H → va_S (fun q => q ∈ ([mo, m_product_a, m_place_a, m_ofX_a, m_ofY_a, m_step_a, m_rows_a, m_cell_a, m_overs_a, m_sure_a] : List Nat)) s.heap H locs → decode cX7_odd pc = .ok (.ireturn, 1) → W p l e rmX7_odd s m args below meth c H locs 0 0 Q (F0 m pc ls [.int v])) : mX7_odd m_rows m_cell m_overs p1 = some res → ∀ (H : Heap) (locs : List Loc), va_P D vwCl [(mo, .inr (4, [.int m_isWorked, .int m_lines, .ref m_product_a, .ref m_place_a, .ref m_ofX_a, .ref m_ofY_a, .int m_steps, .ref m_step_a, .ref m_rows_a, .ref m_cell_a, .ref m_overs_a, .ref m_sure_a])), (m_product_a, .inl (cI, 16, .inl m_product)), (m_place_a, .inl (cI, 16, .inl m_place)), (m_ofX_a, .inl (cI, 16, .inl m_ofX)), (m_ofY_a, .inl (cI, 16, .inl m_ofY)), (m_step_a, .inl (cI, 5, .inl m_step)), (m_rows_a, .inl (cI, 4, .inl m_rows)), (m_cell_a, .inl (cI, 96, .inl m_cell)), (m_overs_a, .inl (cI, 29, .inl m_overs)), (m_sure_a, .inl (cI, 24, .inl m_sure))] H → va_S (fun q => q ∈ ([mo, m_product_a, m_place_a, m_ofX_a, m_ofY_a, m_step_a, m_rows_a, m_cell_a, m_overs_a, m_sure_a] : List Nat)) s.heap H locs → ∀ (ls : Array Slot), lv_has ls 5 [(0, .ref mo), (1, .int p1)] → W p l e rmX7_odd s m args below meth c H locs 0 0 Q (F0 m 0 ls []) := by
  intro h H locs hP hS ls hl
  have C0 := C
  obtain ⟨hx, hb, hml, hown, hts, hr, hlk, hnm⟩ := C0
  rw [mX7_odd] at h
  refine lv_iload_n hx hb dX7_odd_0 rfl (lv_at hl 1 rfl) ?_
  obtain ⟨u1, hu1, h⟩ := md_b h
  refine kS C (ctX7_isTablet l  hu1) gX7_odd_X7_isTablet rfl kdX7_isTablet ⟨rfl, rfl⟩ ⟨by decide, by decide⟩ kT_blind (fun _ _ _ => trivial) rfl hl [] rfl (Nat.le_of_ble_eq_true rfl) dX7_odd_1 ⟨by decide, by decide⟩ ?_
  refine lv_if_ne (tgt := 9) hx hb dX7_odd_4 (by decide) (fun c2 => ?_) (fun c2 => ?_)
  · replace h := md_f c2 h
    refine lv_bipush (v := -6) hx hb dX7_odd_9 (by decide) ?_
    refine lv_istore_n (lv' := [(2, .int (-6 : Int32)), (0, .ref mo), (1, .int p1)]) hx hb dX7_odd_11 rfl hl (by decide) rfl (fun ls hl => ?_)
    refine lv_iconst (v := 0) hx hb dX7_odd_12 (by decide) ?_
    refine lv_istore_n (lv' := [(3, .int (0 : Int32)), (2, .int (-6 : Int32)), (0, .ref mo), (1, .int p1)]) hx hb dX7_odd_13 rfl hl (by decide) rfl (fun ls hl => ?_)
    refine lX7_odd_14 (mo := mo) (m_product_a := m_product_a) (m_place_a := m_place_a) (m_ofX_a := m_ofX_a) (m_ofY_a := m_ofY_a) (m_step_a := m_step_a) (m_rows_a := m_rows_a) (m_cell_a := m_cell_a) (m_overs_a := m_overs_a) (m_sure_a := m_sure_a) C hK hnd p1 m_isWorked m_lines m_product m_place m_ofX m_ofY m_steps m_step m_rows m_cell m_sure res hQ _ (fun y2_88 m_overs_88 h H locs hP hS ls hl => ?_) kN (-6 : Int32) (0 : Int32) m_overs h _ _ hP hS ls (lv_sub hl [2, 3, 1, 0] rfl)
    refine lv_iload_n hx hb dX7_odd_88 rfl (lv_at hl 0 rfl) ?_
    exact hQ y2_88 m_overs_88 H locs 89 ls h hP hS dX7_odd_89
  replace h := md_t c2 h
  refine lv_iconst (v := -1) hx hb dX7_odd_7 (by decide) ?_
  exact hQ (-1 : Int32) m_overs H locs 8 ls h hP hS dX7_odd_8
set_option maxHeartbeats 4000000 in
theorem ctX7_odd (l : Launch) {D : va_G} {cI cT : ClassId} {mo m_product_a m_place_a m_ofX_a m_ofY_a m_step_a m_rows_a m_cell_a m_overs_a m_sure_a : Nat} {m_isWorked : Int32} {m_lines : Int32} {m_product : Nat → Int32} {m_place : Nat → Int32} {m_ofX : Nat → Int32} {m_ofY : Nat → Int32} {m_steps : Int32} {m_step : Nat → Int32} {m_rows : Nat → Int32} {m_cell : Nat → Int32} {m_overs : Nat → Int32} {m_sure : Nat → Int32} {p1 : Int32} {res : (Int32 × (Nat → Int32))} (hnd : ([mo, m_product_a, m_place_a, m_ofX_a, m_ofY_a, m_step_a, m_rows_a, m_cell_a, m_overs_a, m_sure_a] : List Nat).Nodup) (hm : mX7_odd m_rows m_cell m_overs p1 = some res) : Met l yX7_odd wsX7_odd rmX7_odd (va_Pc [.ref mo, .int p1] (kW D cI cT [(mo, .inr (4, [.int m_isWorked, .int m_lines, .ref m_product_a, .ref m_place_a, .ref m_ofX_a, .ref m_ofY_a, .int m_steps, .ref m_step_a, .ref m_rows_a, .ref m_cell_a, .ref m_overs_a, .ref m_sure_a])), (m_product_a, .inl (cI, 16, .inl m_product)), (m_place_a, .inl (cI, 16, .inl m_place)), (m_ofX_a, .inl (cI, 16, .inl m_ofX)), (m_ofY_a, .inl (cI, 16, .inl m_ofY)), (m_step_a, .inl (cI, 5, .inl m_step)), (m_rows_a, .inl (cI, 4, .inl m_rows)), (m_cell_a, .inl (cI, 96, .inl m_cell)), (m_overs_a, .inl (cI, 29, .inl m_overs)), (m_sure_a, .inl (cI, 24, .inl m_sure))] none (fun q => q ∈ ([mo, m_product_a, m_place_a, m_ofX_a, m_ofY_a, m_step_a, m_rows_a, m_cell_a, m_overs_a, m_sure_a] : List Nat)))) (kX (some (.int res.1)) D [(mo, .inr (4, [.int m_isWorked, .int m_lines, .ref m_product_a, .ref m_place_a, .ref m_ofX_a, .ref m_ofY_a, .int m_steps, .ref m_step_a, .ref m_rows_a, .ref m_cell_a, .ref m_overs_a, .ref m_sure_a])), (m_product_a, .inl (cI, 16, .inl m_product)), (m_place_a, .inl (cI, 16, .inl m_place)), (m_ofX_a, .inl (cI, 16, .inl m_ofX)), (m_ofY_a, .inl (cI, 16, .inl m_ofY)), (m_step_a, .inl (cI, 5, .inl m_step)), (m_rows_a, .inl (cI, 4, .inl m_rows)), (m_cell_a, .inl (cI, 96, .inl m_cell)), (m_overs_a, .inl (cI, 29, .inl res.2)), (m_sure_a, .inl (cI, 24, .inl m_sure))] (fun q => q ∈ ([mo, m_product_a, m_place_a, m_ofX_a, m_ofY_a, m_step_a, m_rows_a, m_cell_a, m_overs_a, m_sure_a] : List Nat))) 0 0 (fun q => q ∈ ([mo, m_product_a, m_place_a, m_ofX_a, m_ofY_a, m_step_a, m_rows_a, m_cell_a, m_overs_a, m_sure_a] : List Nat)) :=
  km (by decide) rfl (Nat.le_of_ble_eq_true rfl) (fun p e s m below meth c ls C hB hl => bX7_odd C p1 hB.1 hnd m_isWorked m_lines m_product m_place m_ofX m_ofY m_steps m_step m_rows m_cell m_overs m_sure res (fun v m_overs1 H locs pc ls h hP hS hd => by obtain rfl := Option.some.inj h; exact kx_i C hP hS hd) hm s.heap [] hB.2.1 va_S.rf ls hl)
theorem wm_X7_triple_0 : Cond.fieldLink RX7 28 "SixtyTabletModel" "cell" "[I" ∈ wsX7_triple := by decide +kernel
theorem wi_X7_triple_X7 : ∀ w ∈ wsX70, w ∈ wsX7_triple := by decide +kernel
theorem kdvX7_triple : yX7_triple.cls = RX7 ∧ yX7_triple.cls ≠ "java/lang/invoke/MethodHandle" ∧ yX7_triple.cls ≠ "java/lang/invoke/VarHandle" ∧ (parseMethodDescriptor yX7_triple.desc).map (fun d => d.parameters.length) = some 3 := by decide +kernel
abbrev rmX7_triple : Room := { frames := 3, cells := 0, slots := 0, locals := 67 }
def mlX7_triple_27 (x1 : Int32) (x2 : Int32) (x3 : Int32) (x5 : Int32) (m_cell : Nat → Int32) (kE : Int32 → Option Int32) : Nat → Int32 → Int32 → Option Int32
  | 0, _, _ => none
  | n + 1, x4, x6 => (if x5 ≤ x6 then (kE x4) else (md_let ((x5 * x5) - (x6 * x6)) (fun (x7_5 : Int32) => (md_let (((2 : Int32) * x5) * x6) (fun (x8_6 : Int32) => (md_jn (fun (z0_70 : Int32) => (md_jn (fun (z0_99 : Int32) => (md_jn (fun (z0_155 : Int32) => (md_jn (fun (x4_208 : Int32) => (md_let (x6 + (1 : Int32)) (fun (x6_7 : Int32) => (mlX7_triple_27 x1 x2 x3 x5 m_cell kE n x4_208 x6_7)))) (fun kJ208 => (if z0_155 = 0 then (kJ208 x4) else (Option.bind (mX7_at x1 x2 (2 : Int32)) (fun u9 => (if u9 < 0 ∨ 96 ≤ (Int32.toNatClampNeg u9) then none else (Option.bind (mX7_agree (m_cell (Int32.toNatClampNeg u9)) ((x5 * x5) + (x6 * x6))) (fun u11 => (if u11 = 0 then (kJ208 x4) else (if x4 = x3 then (some (((100 : Int32) * x5) + x6)) else (md_let (x4 + (1 : Int32)) (fun (x4_14 : Int32) => (kJ208 x4_14)))))))))))))) (fun kJ155 => (md_jn (fun (u_154 : Unit) => (kJ155 (0 : Int32))) (fun kJ154 => (if z0_99 = 0 then (kJ154 ()) else (Option.bind (mX7_at x1 x2 (0 : Int32)) (fun u16 => (if u16 < 0 ∨ 96 ≤ (Int32.toNatClampNeg u16) then none else (Option.bind (mX7_agree (m_cell (Int32.toNatClampNeg u16)) z0_70) (fun u18 => (if u18 = 0 then (kJ154 ()) else (Option.bind (mX7_at x1 x2 (1 : Int32)) (fun u20 => (if u20 < 0 ∨ 96 ≤ (Int32.toNatClampNeg u20) then none else (Option.bind (mX7_agree (m_cell (Int32.toNatClampNeg u20)) ((x7_5 + x8_6) - z0_70)) (fun u22 => (if u22 = 0 then (kJ154 ()) else (kJ155 (1 : Int32)))))))))))))))))))) (fun kJ99 => (md_jn (fun (u_98 : Unit) => (kJ99 (0 : Int32))) (fun kJ98 => (if ((x5 + x6) - (x5 + x6) / (2 : Int32) * (2 : Int32)) = (1 : Int32) then (Option.bind (mX7_common x5 x6) (fun u25 => (if u25 = (1 : Int32) then (kJ99 (1 : Int32)) else (kJ98 ())))) else (kJ98 ()))))))) (fun kJ70 => (if x8_6 ≤ x7_5 then (kJ70 x8_6) else (kJ70 x7_5)))))))))
set_option maxHeartbeats 4000000 in
set_option maxRecDepth 100000 in
theorem lX7_triple_27 {p : Program} {l : Launch} {e : Env} {s : State} {m : MethodId} {args : Array Value} {below : List Frame} {meth : Method} {c : Code} {Q : State → Prop} (C : kc p s m args meth c cX7_triple 11 RX7 yX7_triple.name wsX7_triple (some .int)) {D : va_G} {cI cT : ClassId} {mo m_product_a m_place_a m_ofX_a m_ofY_a m_step_a m_rows_a m_cell_a m_overs_a m_sure_a : Nat} (hK : va_K D vwCl (kTy cI cT) s) (x1 : Int32) (x2 : Int32) (x3 : Int32) (x5 : Int32) (m_isWorked : Int32) (m_lines : Int32) (m_product : Nat → Int32) (m_place : Nat → Int32) (m_ofX : Nat → Int32) (m_ofY : Nat → Int32) (m_steps : Int32) (m_step : Nat → Int32) (m_rows : Nat → Int32) (m_cell : Nat → Int32) (m_overs : Nat → Int32) (m_sure : Nat → Int32) (hP : va_P D vwCl [(mo, .inr (4, [.int m_isWorked, .int m_lines, .ref m_product_a, .ref m_place_a, .ref m_ofX_a, .ref m_ofY_a, .int m_steps, .ref m_step_a, .ref m_rows_a, .ref m_cell_a, .ref m_overs_a, .ref m_sure_a])), (m_product_a, .inl (cI, 16, .inl m_product)), (m_place_a, .inl (cI, 16, .inl m_place)), (m_ofX_a, .inl (cI, 16, .inl m_ofX)), (m_ofY_a, .inl (cI, 16, .inl m_ofY)), (m_step_a, .inl (cI, 5, .inl m_step)), (m_rows_a, .inl (cI, 4, .inl m_rows)), (m_cell_a, .inl (cI, 96, .inl m_cell)), (m_overs_a, .inl (cI, 29, .inl m_overs)), (m_sure_a, .inl (cI, 24, .inl m_sure))] s.heap) (res : Int32) (hQ : ∀ (v : Int32) (pc : Nat) (ls : Array Slot), some v = some res → decode cX7_triple pc = .ok (.ireturn, 1) → W p l e rmX7_triple s m args below meth c s.heap [] 0 0 Q (F0 m pc ls [.int v])) (kE : Int32 → Option Int32) (hE : ∀ (y4 : Int32), kE y4 = some res → ∀ (ls : Array Slot), lv_has ls 11 [(0, .ref mo), (1, .int x1), (2, .int x2), (3, .int x3), (4, .int y4), (5, .int x5)] → W p l e rmX7_triple s m args below meth c s.heap [] 0 0 Q (F0 m 214 ls [])) : ∀ (n : Nat), ∀ (x4 : Int32) (x6 : Int32), mlX7_triple_27 x1 x2 x3 x5 m_cell kE n x4 x6 = some res → ∀ (ls : Array Slot), lv_has ls 11 [(0, .ref mo), (1, .int x1), (2, .int x2), (3, .int x3), (4, .int x4), (5, .int x5), (6, .int x6)] → W p l e rmX7_triple s m args below meth c s.heap [] 0 0 Q (F0 m 27 ls []) := by
  have C0 := C
  obtain ⟨hx, hb, hml, hown, hts, hr, hlk, hnm⟩ := C0
  intro n
  induction n with
  | zero => intro _ _ h; exact md_x h
  | succ n ih =>
    intro x4 x6 h ls hl
    rw [mlX7_triple_27] at h
    refine lv_iload hx hb dX7_triple_27 (lv_at hl 6 rfl) ?_
    refine lv_iload hx hb dX7_triple_29 (lv_at hl 5 rfl) ?_
    refine lv_icmp_ge (tgt := 214) hx hb dX7_triple_31 (by decide) (fun c4 => ?_) (fun c4 => ?_)
    · replace h := md_t c4 h
      exact hE x4 h ls (lv_sub hl [0, 1, 2, 3, 4, 5] rfl)
    replace h := md_f c4 h
    refine lv_iload hx hb dX7_triple_34 (lv_at hl 5 rfl) ?_
    refine lv_iload hx hb dX7_triple_36 (lv_at hl 5 rfl) ?_
    refine lv_imul hx hb dX7_triple_38 ?_
    refine lv_iload hx hb dX7_triple_39 (lv_at hl 6 rfl) ?_
    refine lv_iload hx hb dX7_triple_41 (lv_at hl 6 rfl) ?_
    refine lv_imul hx hb dX7_triple_43 ?_
    refine lv_isub hx hb dX7_triple_44 ?_
    refine lv_topi (fun x7_5 ex7_5 => ?_)
    replace h := md_le ex7_5 h
    refine lv_istore (lv' := [(7, .int x7_5), (0, .ref mo), (1, .int x1), (2, .int x2), (3, .int x3), (4, .int x4), (5, .int x5), (6, .int x6)]) hx hb dX7_triple_45 hl (by decide) rfl (fun ls hl => ?_)
    refine lv_iconst (v := 2) hx hb dX7_triple_47 (by decide) ?_
    refine lv_iload hx hb dX7_triple_48 (lv_at hl 6 rfl) ?_
    refine lv_imul hx hb dX7_triple_50 ?_
    refine lv_iload hx hb dX7_triple_51 (lv_at hl 7 rfl) ?_
    refine lv_imul hx hb dX7_triple_53 ?_
    refine lv_topi (fun x8_6 ex8_6 => ?_)
    replace h := md_le ex8_6 h
    refine lv_istore (lv' := [(8, .int x8_6), (7, .int x7_5), (0, .ref mo), (1, .int x1), (2, .int x2), (3, .int x3), (4, .int x4), (5, .int x5), (6, .int x6)]) hx hb dX7_triple_54 hl (by decide) rfl (fun ls hl => ?_)
    refine lv_iload hx hb dX7_triple_56 (lv_at hl 1 rfl) ?_
    refine lv_iload hx hb dX7_triple_58 (lv_at hl 0 rfl) ?_
    obtain ⟨kJ70, ekJ70, h⟩ := md_jo h
    have KJ70 : ∀ (z0_70 : Int32), kJ70 z0_70 = some res → ∀ (ls : Array Slot), lv_has ls 11 [(0, .ref mo), (1, .int x1), (2, .int x2), (3, .int x3), (4, .int x4), (5, .int x5), (6, .int x6), (7, .int x7_5), (8, .int x8_6)] → W p l e rmX7_triple s m args below meth c s.heap [] 0 0 Q (F0 m 70 ls [.int z0_70]) := by
      intro z0_70 h ls hl
      rw [ekJ70] at h
      refine lv_istore (lv' := [(9, .int z0_70), (0, .ref mo), (1, .int x1), (2, .int x2), (3, .int x3), (4, .int x4), (5, .int x5), (6, .int x6), (7, .int x7_5), (8, .int x8_6)]) hx hb dX7_triple_70 hl (by decide) rfl (fun ls hl => ?_)
      refine lv_iload hx hb dX7_triple_72 (lv_at hl 6 rfl) ?_
      refine lv_iload hx hb dX7_triple_74 (lv_at hl 7 rfl) ?_
      refine lv_iadd hx hb dX7_triple_76 ?_
      refine lv_iconst (v := 2) hx hb dX7_triple_77 (by decide) ?_
      refine lv_irem hx hb dX7_triple_78 (by decide) ?_
      refine lv_iconst (v := 1) hx hb dX7_triple_79 (by decide) ?_
      obtain ⟨kJ99, ekJ99, h⟩ := md_jo h
      have KJ99 : ∀ (z0_99 : Int32), kJ99 z0_99 = some res → ∀ (ls : Array Slot), lv_has ls 11 [(0, .ref mo), (1, .int x1), (2, .int x2), (3, .int x3), (4, .int x4), (5, .int x5), (6, .int x6), (7, .int x7_5), (8, .int x8_6), (9, .int z0_70)] → W p l e rmX7_triple s m args below meth c s.heap [] 0 0 Q (F0 m 99 ls [.int z0_99]) := by
        intro z0_99 h ls hl
        rw [ekJ99] at h
        refine lv_istore (lv' := [(10, .int z0_99), (0, .ref mo), (1, .int x1), (2, .int x2), (3, .int x3), (4, .int x4), (5, .int x5), (6, .int x6), (7, .int x7_5), (8, .int x8_6), (9, .int z0_70)]) hx hb dX7_triple_99 hl (by decide) rfl (fun ls hl => ?_)
        refine lv_iload hx hb dX7_triple_101 (lv_at hl 0 rfl) ?_
        obtain ⟨kJ155, ekJ155, h⟩ := md_jo h
        have KJ155 : ∀ (z0_155 : Int32), kJ155 z0_155 = some res → ∀ (ls : Array Slot), lv_has ls 11 [(0, .ref mo), (1, .int x1), (2, .int x2), (3, .int x3), (4, .int x4), (5, .int x5), (6, .int x6)] → W p l e rmX7_triple s m args below meth c s.heap [] 0 0 Q (F0 m 155 ls [.int z0_155]) := by
          intro z0_155 h ls hl
          rw [ekJ155] at h
          refine lv_istore (lv' := [(10, .int z0_155), (0, .ref mo), (1, .int x1), (2, .int x2), (3, .int x3), (4, .int x4), (5, .int x5), (6, .int x6)]) hx hb dX7_triple_155 hl (by decide) rfl (fun ls hl => ?_)
          refine lv_iload hx hb dX7_triple_157 (lv_at hl 0 rfl) ?_
          obtain ⟨kJ208, ekJ208, h⟩ := md_jo h
          have KJ208 : ∀ (x4_208 : Int32), kJ208 x4_208 = some res → ∀ (ls : Array Slot), lv_has ls 11 [(0, .ref mo), (1, .int x1), (2, .int x2), (3, .int x3), (4, .int x4_208), (5, .int x5), (6, .int x6)] → W p l e rmX7_triple s m args below meth c s.heap [] 0 0 Q (F0 m 208 ls []) := by
            intro x4_208 h ls hl
            rw [ekJ208] at h
            obtain ⟨x6_7, ex6_7⟩ : ∃ y : Int32, y = (x6 + (1 : Int32)) := ⟨_, rfl⟩
            replace h := md_le ex6_7 h
            refine lv_iinc (v := x6_7) (lv' := [(6, .int x6_7), (0, .ref mo), (1, .int x1), (2, .int x2), (3, .int x3), (4, .int x4_208), (5, .int x5)]) hx hb dX7_triple_208 hl (k := 6) rfl (by rw [ex6_7]; rfl) (by decide) rfl (fun ls hl => ?_)
            refine lv_goto (tgt := 27) hx hb dX7_triple_211 (by decide) ?_
            exact ih x4_208 x6_7 h ls (lv_sub hl [1, 2, 3, 4, 5, 6, 0] rfl)
          clear ekJ208
          refine lv_if_eq (tgt := 208) hx hb dX7_triple_159 (by decide) (fun c8 => ?_) (fun c8 => ?_)
          · replace h := md_t c8 h
            exact KJ208 x4 h ls (lv_sub hl [1, 2, 3, 4, 5, 6, 7] rfl)
          replace h := md_f c8 h
          refine lv_aload_n hx hb dX7_triple_162 rfl (lv_at hl 1 rfl) ?_
          refine va_get (D := D) (ci := 4) (v := .ref m_cell_a) (C := RX7) (T := TX7) (N := 12) hx hb hts wi_X7_triple_X7 hown hK hP 0 rfl rfl 9 (by decide) (hts _ wm_X7_triple_0) (fun _ h9 => h9) rfl dX7_triple_163 ?_
          refine lv_iload_n hx hb dX7_triple_166 rfl (lv_at hl 2 rfl) ?_
          refine lv_iload_n hx hb dX7_triple_167 rfl (lv_at hl 3 rfl) ?_
          refine lv_iconst (v := 2) hx hb dX7_triple_168 (by decide) ?_
          obtain ⟨u9, hu9, h⟩ := md_b h
          refine kS C (ctX7_at l  hu9) gX7_triple_X7_at rfl kdX7_at ⟨rfl, rfl⟩ ⟨by decide, by decide⟩ kT_blind (fun _ _ _ => trivial) rfl hl [.ref m_cell_a] rfl (Nat.le_of_ble_eq_true rfl) dX7_triple_169 ⟨by decide, by decide⟩ ?_
          obtain ⟨hin10, h⟩ := md_g h
          refine va_iald hx hb hK hP 7 0 rfl rfl hin10 dX7_triple_172 ?_
          refine lv_iload hx hb dX7_triple_173 (lv_at hl 6 rfl) ?_
          refine lv_iload hx hb dX7_triple_175 (lv_at hl 6 rfl) ?_
          refine lv_imul hx hb dX7_triple_177 ?_
          refine lv_iload hx hb dX7_triple_178 (lv_at hl 7 rfl) ?_
          refine lv_iload hx hb dX7_triple_180 (lv_at hl 7 rfl) ?_
          refine lv_imul hx hb dX7_triple_182 ?_
          refine lv_iadd hx hb dX7_triple_183 ?_
          obtain ⟨u11, hu11, h⟩ := md_b h
          refine kS C (ctX7_agree l  hu11) gX7_triple_X7_agree rfl kdX7_agree ⟨rfl, rfl⟩ ⟨by decide, by decide⟩ kT_blind (fun _ _ _ => trivial) rfl hl [] rfl (Nat.le_of_ble_eq_true rfl) dX7_triple_184 ⟨by decide, by decide⟩ ?_
          refine lv_if_eq (tgt := 208) hx hb dX7_triple_187 (by decide) (fun c12 => ?_) (fun c12 => ?_)
          · replace h := md_t c12 h
            exact KJ208 x4 h ls (lv_sub hl [1, 2, 3, 4, 5, 6, 7] rfl)
          replace h := md_f c12 h
          refine lv_iload hx hb dX7_triple_190 (lv_at hl 5 rfl) ?_
          refine lv_iload_n hx hb dX7_triple_192 rfl (lv_at hl 4 rfl) ?_
          refine lv_icmp_ne (tgt := 205) hx hb dX7_triple_193 (by decide) (fun c13 => ?_) (fun c13 => ?_)
          · replace h := md_f c13 h
            obtain ⟨x4_14, ex4_14⟩ : ∃ y : Int32, y = (x4 + (1 : Int32)) := ⟨_, rfl⟩
            replace h := md_le ex4_14 h
            refine lv_iinc (v := x4_14) (lv' := [(4, .int x4_14), (10, .int z0_155), (0, .ref mo), (1, .int x1), (2, .int x2), (3, .int x3), (5, .int x5), (6, .int x6)]) hx hb dX7_triple_205 hl (k := 5) rfl (by rw [ex4_14]; rfl) (by decide) rfl (fun ls hl => ?_)
            exact KJ208 x4_14 h ls (lv_sub hl [2, 3, 4, 5, 0, 6, 7] rfl)
          replace h := md_t c13 h
          refine lv_bipush (v := 100) hx hb dX7_triple_196 (by decide) ?_
          refine lv_iload hx hb dX7_triple_198 (lv_at hl 6 rfl) ?_
          refine lv_imul hx hb dX7_triple_200 ?_
          refine lv_iload hx hb dX7_triple_201 (lv_at hl 7 rfl) ?_
          refine lv_iadd hx hb dX7_triple_203 ?_
          exact hQ (((100 : Int32) * x5) + x6) 204 ls h dX7_triple_204
        clear ekJ155
        obtain ⟨kJ154, ekJ154, h⟩ := md_jo h
        have KJ154 : ∀ (u_154 : Unit), kJ154 u_154 = some res → ∀ (ls : Array Slot), lv_has ls 11 [(0, .ref mo), (1, .int x1), (2, .int x2), (3, .int x3), (4, .int x4), (5, .int x5), (6, .int x6)] → W p l e rmX7_triple s m args below meth c s.heap [] 0 0 Q (F0 m 154 ls []) := by
          intro u_154 h ls hl
          rw [ekJ154] at h
          refine lv_iconst (v := 0) hx hb dX7_triple_154 (by decide) ?_
          exact KJ155 (0 : Int32) h ls (lv_sub hl [0, 1, 2, 3, 4, 5, 6] rfl)
        clear ekJ154
        refine lv_if_eq (tgt := 154) hx hb dX7_triple_103 (by decide) (fun c15 => ?_) (fun c15 => ?_)
        · replace h := md_t c15 h
          exact KJ154 () h ls (lv_sub hl [1, 2, 3, 4, 5, 6, 7] rfl)
        replace h := md_f c15 h
        refine lv_aload_n hx hb dX7_triple_106 rfl (lv_at hl 1 rfl) ?_
        refine va_get (D := D) (ci := 4) (v := .ref m_cell_a) (C := RX7) (T := TX7) (N := 12) hx hb hts wi_X7_triple_X7 hown hK hP 0 rfl rfl 9 (by decide) (hts _ wm_X7_triple_0) (fun _ h9 => h9) rfl dX7_triple_107 ?_
        refine lv_iload_n hx hb dX7_triple_110 rfl (lv_at hl 2 rfl) ?_
        refine lv_iload_n hx hb dX7_triple_111 rfl (lv_at hl 3 rfl) ?_
        refine lv_iconst (v := 0) hx hb dX7_triple_112 (by decide) ?_
        obtain ⟨u16, hu16, h⟩ := md_b h
        refine kS C (ctX7_at l  hu16) gX7_triple_X7_at rfl kdX7_at ⟨rfl, rfl⟩ ⟨by decide, by decide⟩ kT_blind (fun _ _ _ => trivial) rfl hl [.ref m_cell_a] rfl (Nat.le_of_ble_eq_true rfl) dX7_triple_113 ⟨by decide, by decide⟩ ?_
        obtain ⟨hin17, h⟩ := md_g h
        refine va_iald hx hb hK hP 7 0 rfl rfl hin17 dX7_triple_116 ?_
        refine lv_iload hx hb dX7_triple_117 (lv_at hl 10 rfl) ?_
        obtain ⟨u18, hu18, h⟩ := md_b h
        refine kS C (ctX7_agree l  hu18) gX7_triple_X7_agree rfl kdX7_agree ⟨rfl, rfl⟩ ⟨by decide, by decide⟩ kT_blind (fun _ _ _ => trivial) rfl hl [] rfl (Nat.le_of_ble_eq_true rfl) dX7_triple_119 ⟨by decide, by decide⟩ ?_
        refine lv_if_eq (tgt := 154) hx hb dX7_triple_122 (by decide) (fun c19 => ?_) (fun c19 => ?_)
        · replace h := md_t c19 h
          exact KJ154 () h ls (lv_sub hl [1, 2, 3, 4, 5, 6, 7] rfl)
        replace h := md_f c19 h
        refine lv_aload_n hx hb dX7_triple_125 rfl (lv_at hl 1 rfl) ?_
        refine va_get (D := D) (ci := 4) (v := .ref m_cell_a) (C := RX7) (T := TX7) (N := 12) hx hb hts wi_X7_triple_X7 hown hK hP 0 rfl rfl 9 (by decide) (hts _ wm_X7_triple_0) (fun _ h9 => h9) rfl dX7_triple_126 ?_
        refine lv_iload_n hx hb dX7_triple_129 rfl (lv_at hl 2 rfl) ?_
        refine lv_iload_n hx hb dX7_triple_130 rfl (lv_at hl 3 rfl) ?_
        refine lv_iconst (v := 1) hx hb dX7_triple_131 (by decide) ?_
        obtain ⟨u20, hu20, h⟩ := md_b h
        refine kS C (ctX7_at l  hu20) gX7_triple_X7_at rfl kdX7_at ⟨rfl, rfl⟩ ⟨by decide, by decide⟩ kT_blind (fun _ _ _ => trivial) rfl hl [.ref m_cell_a] rfl (Nat.le_of_ble_eq_true rfl) dX7_triple_132 ⟨by decide, by decide⟩ ?_
        obtain ⟨hin21, h⟩ := md_g h
        refine va_iald hx hb hK hP 7 0 rfl rfl hin21 dX7_triple_135 ?_
        refine lv_iload hx hb dX7_triple_136 (lv_at hl 8 rfl) ?_
        refine lv_iload hx hb dX7_triple_138 (lv_at hl 9 rfl) ?_
        refine lv_iadd hx hb dX7_triple_140 ?_
        refine lv_iload hx hb dX7_triple_141 (lv_at hl 10 rfl) ?_
        refine lv_isub hx hb dX7_triple_143 ?_
        obtain ⟨u22, hu22, h⟩ := md_b h
        refine kS C (ctX7_agree l  hu22) gX7_triple_X7_agree rfl kdX7_agree ⟨rfl, rfl⟩ ⟨by decide, by decide⟩ kT_blind (fun _ _ _ => trivial) rfl hl [] rfl (Nat.le_of_ble_eq_true rfl) dX7_triple_144 ⟨by decide, by decide⟩ ?_
        refine lv_if_eq (tgt := 154) hx hb dX7_triple_147 (by decide) (fun c23 => ?_) (fun c23 => ?_)
        · replace h := md_t c23 h
          exact KJ154 () h ls (lv_sub hl [1, 2, 3, 4, 5, 6, 7] rfl)
        replace h := md_f c23 h
        refine lv_iconst (v := 1) hx hb dX7_triple_150 (by decide) ?_
        refine lv_goto (tgt := 155) hx hb dX7_triple_151 (by decide) ?_
        exact KJ155 (1 : Int32) h ls (lv_sub hl [1, 2, 3, 4, 5, 6, 7] rfl)
      clear ekJ99
      obtain ⟨kJ98, ekJ98, h⟩ := md_jo h
      have KJ98 : ∀ (u_98 : Unit), kJ98 u_98 = some res → ∀ (ls : Array Slot), lv_has ls 11 [(0, .ref mo), (1, .int x1), (2, .int x2), (3, .int x3), (4, .int x4), (5, .int x5), (6, .int x6), (7, .int x7_5), (8, .int x8_6), (9, .int z0_70)] → W p l e rmX7_triple s m args below meth c s.heap [] 0 0 Q (F0 m 98 ls []) := by
        intro u_98 h ls hl
        rw [ekJ98] at h
        refine lv_iconst (v := 0) hx hb dX7_triple_98 (by decide) ?_
        exact KJ99 (0 : Int32) h ls (lv_sub hl [0, 1, 2, 3, 4, 5, 6, 7, 8, 9] rfl)
      clear ekJ98
      refine lv_icmp_ne (tgt := 98) hx hb dX7_triple_80 (by decide) (fun c24 => ?_) (fun c24 => ?_)
      · replace h := md_f c24 h
        exact KJ98 () h ls (lv_sub hl [1, 2, 3, 4, 5, 6, 7, 8, 9, 0] rfl)
      replace h := md_t c24 h
      refine lv_iload hx hb dX7_triple_83 (lv_at hl 6 rfl) ?_
      refine lv_iload hx hb dX7_triple_85 (lv_at hl 7 rfl) ?_
      obtain ⟨u25, hu25, h⟩ := md_b h
      refine kS C (ctX7_common l  hu25) gX7_triple_X7_common rfl kdX7_common ⟨rfl, rfl⟩ ⟨by decide, by decide⟩ kT_blind (fun _ _ _ => trivial) rfl hl [] rfl (Nat.le_of_ble_eq_true rfl) dX7_triple_87 ⟨by decide, by decide⟩ ?_
      refine lv_iconst (v := 1) hx hb dX7_triple_90 (by decide) ?_
      refine lv_icmp_ne (tgt := 98) hx hb dX7_triple_91 (by decide) (fun c26 => ?_) (fun c26 => ?_)
      · replace h := md_f c26 h
        exact KJ98 () h ls (lv_sub hl [1, 2, 3, 4, 5, 6, 7, 8, 9, 0] rfl)
      replace h := md_t c26 h
      refine lv_iconst (v := 1) hx hb dX7_triple_94 (by decide) ?_
      refine lv_goto (tgt := 99) hx hb dX7_triple_95 (by decide) ?_
      exact KJ99 (1 : Int32) h ls (lv_sub hl [1, 2, 3, 4, 5, 6, 7, 8, 9, 0] rfl)
    clear ekJ70
    refine lv_icmp_ge (tgt := 68) hx hb dX7_triple_60 (by decide) (fun c27 => ?_) (fun c27 => ?_)
    · replace h := md_t c27 h
      refine lv_iload hx hb dX7_triple_68 (lv_at hl 0 rfl) ?_
      exact KJ70 x8_6 h ls (lv_sub hl [2, 3, 4, 5, 6, 7, 8, 1, 0] rfl)
    replace h := md_f c27 h
    refine lv_iload hx hb dX7_triple_63 (lv_at hl 1 rfl) ?_
    refine lv_goto (tgt := 70) hx hb dX7_triple_65 (by decide) ?_
    exact KJ70 x7_5 h ls (lv_sub hl [2, 3, 4, 5, 6, 7, 8, 1, 0] rfl)
def mlX7_triple_17 (x1 : Int32) (x2 : Int32) (x3 : Int32) (m_cell : Nat → Int32) (kE : Int32 → Option Int32) : Nat → Int32 → Int32 → Option Int32
  | 0, _, _ => none
  | n + 1, x4, x5 => (if (13 : Int32) ≤ x5 then (kE x4) else (mlX7_triple_27 x1 x2 x3 x5 m_cell (fun (y4_214 : Int32) => (md_let (x5 + (1 : Int32)) (fun (x5_28 : Int32) => (mlX7_triple_17 x1 x2 x3 m_cell kE n y4_214 x5_28)))) kN x4 (1 : Int32)))
set_option maxHeartbeats 4000000 in
set_option maxRecDepth 100000 in
theorem lX7_triple_17 {p : Program} {l : Launch} {e : Env} {s : State} {m : MethodId} {args : Array Value} {below : List Frame} {meth : Method} {c : Code} {Q : State → Prop} (C : kc p s m args meth c cX7_triple 11 RX7 yX7_triple.name wsX7_triple (some .int)) {D : va_G} {cI cT : ClassId} {mo m_product_a m_place_a m_ofX_a m_ofY_a m_step_a m_rows_a m_cell_a m_overs_a m_sure_a : Nat} (hK : va_K D vwCl (kTy cI cT) s) (x1 : Int32) (x2 : Int32) (x3 : Int32) (m_isWorked : Int32) (m_lines : Int32) (m_product : Nat → Int32) (m_place : Nat → Int32) (m_ofX : Nat → Int32) (m_ofY : Nat → Int32) (m_steps : Int32) (m_step : Nat → Int32) (m_rows : Nat → Int32) (m_cell : Nat → Int32) (m_overs : Nat → Int32) (m_sure : Nat → Int32) (hP : va_P D vwCl [(mo, .inr (4, [.int m_isWorked, .int m_lines, .ref m_product_a, .ref m_place_a, .ref m_ofX_a, .ref m_ofY_a, .int m_steps, .ref m_step_a, .ref m_rows_a, .ref m_cell_a, .ref m_overs_a, .ref m_sure_a])), (m_product_a, .inl (cI, 16, .inl m_product)), (m_place_a, .inl (cI, 16, .inl m_place)), (m_ofX_a, .inl (cI, 16, .inl m_ofX)), (m_ofY_a, .inl (cI, 16, .inl m_ofY)), (m_step_a, .inl (cI, 5, .inl m_step)), (m_rows_a, .inl (cI, 4, .inl m_rows)), (m_cell_a, .inl (cI, 96, .inl m_cell)), (m_overs_a, .inl (cI, 29, .inl m_overs)), (m_sure_a, .inl (cI, 24, .inl m_sure))] s.heap) (res : Int32) (hQ : ∀ (v : Int32) (pc : Nat) (ls : Array Slot), some v = some res → decode cX7_triple pc = .ok (.ireturn, 1) → W p l e rmX7_triple s m args below meth c s.heap [] 0 0 Q (F0 m pc ls [.int v])) (kE : Int32 → Option Int32) (hE : ∀ (y4 : Int32), kE y4 = some res → ∀ (ls : Array Slot), lv_has ls 11 [(3, .int x3), (4, .int y4)] → W p l e rmX7_triple s m args below meth c s.heap [] 0 0 Q (F0 m 220 ls [])) : ∀ (n : Nat), ∀ (x4 : Int32) (x5 : Int32), mlX7_triple_17 x1 x2 x3 m_cell kE n x4 x5 = some res → ∀ (ls : Array Slot), lv_has ls 11 [(0, .ref mo), (1, .int x1), (2, .int x2), (3, .int x3), (4, .int x4), (5, .int x5)] → W p l e rmX7_triple s m args below meth c s.heap [] 0 0 Q (F0 m 17 ls []) := by
  have C0 := C
  obtain ⟨hx, hb, hml, hown, hts, hr, hlk, hnm⟩ := C0
  intro n
  induction n with
  | zero => intro _ _ h; exact md_x h
  | succ n ih =>
    intro x4 x5 h ls hl
    rw [mlX7_triple_17] at h
    refine lv_iload hx hb dX7_triple_17 (lv_at hl 5 rfl) ?_
    refine lv_bipush (v := 13) hx hb dX7_triple_19 (by decide) ?_
    refine lv_icmp_ge (tgt := 220) hx hb dX7_triple_21 (by decide) (fun c3 => ?_) (fun c3 => ?_)
    · replace h := md_t c3 h
      exact hE x4 h ls (lv_sub hl [3, 4] rfl)
    replace h := md_f c3 h
    refine lv_iconst (v := 1) hx hb dX7_triple_24 (by decide) ?_
    refine lv_istore (lv' := [(6, .int (1 : Int32)), (0, .ref mo), (1, .int x1), (2, .int x2), (3, .int x3), (4, .int x4), (5, .int x5)]) hx hb dX7_triple_25 hl (by decide) rfl (fun ls hl => ?_)
    refine lX7_triple_27 (mo := mo) (m_product_a := m_product_a) (m_place_a := m_place_a) (m_ofX_a := m_ofX_a) (m_ofY_a := m_ofY_a) (m_step_a := m_step_a) (m_rows_a := m_rows_a) (m_cell_a := m_cell_a) (m_overs_a := m_overs_a) (m_sure_a := m_sure_a) C hK x1 x2 x3 x5 m_isWorked m_lines m_product m_place m_ofX m_ofY m_steps m_step m_rows m_cell m_overs m_sure hP res hQ _ (fun y4_214 h ls hl => ?_) kN x4 (1 : Int32) h ls (lv_sub hl [1, 2, 3, 4, 5, 6, 0] rfl)
    obtain ⟨x5_28, ex5_28⟩ : ∃ y : Int32, y = (x5 + (1 : Int32)) := ⟨_, rfl⟩
    replace h := md_le ex5_28 h
    refine lv_iinc (v := x5_28) (lv' := [(5, .int x5_28), (0, .ref mo), (1, .int x1), (2, .int x2), (3, .int x3), (4, .int y4_214)]) hx hb dX7_triple_214 hl (k := 5) rfl (by rw [ex5_28]; rfl) (by decide) rfl (fun ls hl => ?_)
    refine lv_goto (tgt := 17) hx hb dX7_triple_217 (by decide) ?_
    exact ih y4_214 x5_28 h ls (lv_sub hl [1, 2, 3, 4, 5, 0] rfl)
def mX7_triple (m_rows : Nat → Int32) (m_cell : Nat → Int32) (p1 : Int32) (p2 : Int32) (p3 : Int32) : Option Int32 := (Option.bind (mX7_isRow m_rows p1 p2) (fun u1 => (if u1 = 0 then (some (-1 : Int32)) else (mlX7_triple_17 p1 p2 p3 m_cell (fun (y4_220 : Int32) => (if p3 = (-1 : Int32) then (some y4_220) else (some (-6 : Int32)))) kN (0 : Int32) (2 : Int32)))))
set_option maxHeartbeats 4000000 in
set_option maxRecDepth 100000 in
theorem bX7_triple {p : Program} {l : Launch} {e : Env} {s : State} {m : MethodId} {args : Array Value} {below : List Frame} {meth : Method} {c : Code} {Q : State → Prop} (C : kc p s m args meth c cX7_triple 11 RX7 yX7_triple.name wsX7_triple (some .int)) {D : va_G} {cI cT : ClassId} {mo m_product_a m_place_a m_ofX_a m_ofY_a m_step_a m_rows_a m_cell_a m_overs_a m_sure_a : Nat} (p1 : Int32) (p2 : Int32) (p3 : Int32) (hK : va_K D vwCl (kTy cI cT) s) (m_isWorked : Int32) (m_lines : Int32) (m_product : Nat → Int32) (m_place : Nat → Int32) (m_ofX : Nat → Int32) (m_ofY : Nat → Int32) (m_steps : Int32) (m_step : Nat → Int32) (m_rows : Nat → Int32) (m_cell : Nat → Int32) (m_overs : Nat → Int32) (m_sure : Nat → Int32) (hP : va_P D vwCl [(mo, .inr (4, [.int m_isWorked, .int m_lines, .ref m_product_a, .ref m_place_a, .ref m_ofX_a, .ref m_ofY_a, .int m_steps, .ref m_step_a, .ref m_rows_a, .ref m_cell_a, .ref m_overs_a, .ref m_sure_a])), (m_product_a, .inl (cI, 16, .inl m_product)), (m_place_a, .inl (cI, 16, .inl m_place)), (m_ofX_a, .inl (cI, 16, .inl m_ofX)), (m_ofY_a, .inl (cI, 16, .inl m_ofY)), (m_step_a, .inl (cI, 5, .inl m_step)), (m_rows_a, .inl (cI, 4, .inl m_rows)), (m_cell_a, .inl (cI, 96, .inl m_cell)), (m_overs_a, .inl (cI, 29, .inl m_overs)), (m_sure_a, .inl (cI, 24, .inl m_sure))] s.heap) (res : Int32) (hQ : ∀ (v : Int32) (pc : Nat) (ls : Array Slot), some v = some res → decode cX7_triple pc = .ok (.ireturn, 1) → W p l e rmX7_triple s m args below meth c s.heap [] 0 0 Q (F0 m pc ls [.int v])) : mX7_triple m_rows m_cell p1 p2 p3 = some res → ∀ (ls : Array Slot), lv_has ls 11 [(0, .ref mo), (1, .int p1), (2, .int p2), (3, .int p3)] → W p l e rmX7_triple s m args below meth c s.heap [] 0 0 Q (F0 m 0 ls []) := by
  intro h ls hl
  have C0 := C
  obtain ⟨hx, hb, hml, hown, hts, hr, hlk, hnm⟩ := C0
  rw [mX7_triple] at h
  refine lv_aload_n hx hb dX7_triple_0 rfl (lv_at hl 0 rfl) ?_
  refine lv_iload_n hx hb dX7_triple_1 rfl (lv_at hl 1 rfl) ?_
  refine lv_iload_n hx hb dX7_triple_2 rfl (lv_at hl 2 rfl) ?_
  obtain ⟨u1, hu1, h⟩ := md_b h
  refine kV C (ctX7_isRow l  hu1) gX7_triple_X7_isRow rfl kdvX7_isRow ⟨rfl, rfl⟩ ⟨by decide, by decide⟩ kW_blind (va_recv hK hP (ci := 4) (q0 := 0) rfl rfl) (kW_use hK (hP.sub (ws' := [(mo, .inr (4, [.int m_isWorked, .int m_lines, .ref m_product_a, .ref m_place_a, .ref m_ofX_a, .ref m_ofY_a, .int m_steps, .ref m_step_a, .ref m_rows_a, .ref m_cell_a, .ref m_overs_a, .ref m_sure_a])), (m_product_a, .inl (cI, 16, .inl m_product)), (m_place_a, .inl (cI, 16, .inl m_place)), (m_ofX_a, .inl (cI, 16, .inl m_ofX)), (m_ofY_a, .inl (cI, 16, .inl m_ofY)), (m_step_a, .inl (cI, 5, .inl m_step)), (m_rows_a, .inl (cI, 4, .inl m_rows)), (m_cell_a, .inl (cI, 96, .inl m_cell)), (m_overs_a, .inl (cI, 29, .inl m_overs)), (m_sure_a, .inl (cI, 24, .inl m_sure))]) [0, 1, 2, 3, 4, 5, 6, 7, 8, 9] rfl) kL_no) rfl hl [] rfl (Nat.le_of_ble_eq_true rfl) dX7_triple_3 ⟨by decide, by decide⟩ ?_
  refine lv_if_ne (tgt := 11) hx hb dX7_triple_6 (by decide) (fun c2 => ?_) (fun c2 => ?_)
  · replace h := md_f c2 h
    refine lv_iconst (v := 0) hx hb dX7_triple_11 (by decide) ?_
    refine lv_istore (lv' := [(4, .int (0 : Int32)), (0, .ref mo), (1, .int p1), (2, .int p2), (3, .int p3)]) hx hb dX7_triple_12 hl (by decide) rfl (fun ls hl => ?_)
    refine lv_iconst (v := 2) hx hb dX7_triple_14 (by decide) ?_
    refine lv_istore (lv' := [(5, .int (2 : Int32)), (4, .int (0 : Int32)), (0, .ref mo), (1, .int p1), (2, .int p2), (3, .int p3)]) hx hb dX7_triple_15 hl (by decide) rfl (fun ls hl => ?_)
    refine lX7_triple_17 (mo := mo) (m_product_a := m_product_a) (m_place_a := m_place_a) (m_ofX_a := m_ofX_a) (m_ofY_a := m_ofY_a) (m_step_a := m_step_a) (m_rows_a := m_rows_a) (m_cell_a := m_cell_a) (m_overs_a := m_overs_a) (m_sure_a := m_sure_a) C hK p1 p2 p3 m_isWorked m_lines m_product m_place m_ofX m_ofY m_steps m_step m_rows m_cell m_overs m_sure hP res hQ _ (fun y4_220 h ls hl => ?_) kN (0 : Int32) (2 : Int32) h ls (lv_sub hl [2, 3, 4, 5, 1, 0] rfl)
    refine lv_iload_n hx hb dX7_triple_220 rfl (lv_at hl 0 rfl) ?_
    refine lv_iconst (v := -1) hx hb dX7_triple_221 (by decide) ?_
    refine lv_icmp_ne (tgt := 230) hx hb dX7_triple_222 (by decide) (fun c29 => ?_) (fun c29 => ?_)
    · replace h := md_f c29 h
      refine lv_bipush (v := -6) hx hb dX7_triple_230 (by decide) ?_
      exact hQ (-6 : Int32) 232 ls h dX7_triple_232
    replace h := md_t c29 h
    refine lv_iload hx hb dX7_triple_225 (lv_at hl 1 rfl) ?_
    refine lv_goto (tgt := 232) hx hb dX7_triple_227 (by decide) ?_
    exact hQ y4_220 232 ls h dX7_triple_232
  replace h := md_t c2 h
  refine lv_iconst (v := -1) hx hb dX7_triple_9 (by decide) ?_
  exact hQ (-1 : Int32) 10 ls h dX7_triple_10
set_option maxHeartbeats 4000000 in
theorem ctX7_triple (l : Launch) {D : va_G} {cI cT : ClassId} {mo m_product_a m_place_a m_ofX_a m_ofY_a m_step_a m_rows_a m_cell_a m_overs_a m_sure_a : Nat} {m_isWorked : Int32} {m_lines : Int32} {m_product : Nat → Int32} {m_place : Nat → Int32} {m_ofX : Nat → Int32} {m_ofY : Nat → Int32} {m_steps : Int32} {m_step : Nat → Int32} {m_rows : Nat → Int32} {m_cell : Nat → Int32} {m_overs : Nat → Int32} {m_sure : Nat → Int32} {p1 : Int32} {p2 : Int32} {p3 : Int32} {res : Int32} (hm : mX7_triple m_rows m_cell p1 p2 p3 = some res) : Met l yX7_triple wsX7_triple rmX7_triple (va_Pc [.ref mo, .int p1, .int p2, .int p3] (kW D cI cT [(mo, .inr (4, [.int m_isWorked, .int m_lines, .ref m_product_a, .ref m_place_a, .ref m_ofX_a, .ref m_ofY_a, .int m_steps, .ref m_step_a, .ref m_rows_a, .ref m_cell_a, .ref m_overs_a, .ref m_sure_a])), (m_product_a, .inl (cI, 16, .inl m_product)), (m_place_a, .inl (cI, 16, .inl m_place)), (m_ofX_a, .inl (cI, 16, .inl m_ofX)), (m_ofY_a, .inl (cI, 16, .inl m_ofY)), (m_step_a, .inl (cI, 5, .inl m_step)), (m_rows_a, .inl (cI, 4, .inl m_rows)), (m_cell_a, .inl (cI, 96, .inl m_cell)), (m_overs_a, .inl (cI, 29, .inl m_overs)), (m_sure_a, .inl (cI, 24, .inl m_sure))] none (fun _ => False))) (kR (.int res)) 0 0 (fun _ => False) :=
  km (by decide) rfl (Nat.le_of_ble_eq_true rfl) (fun p e s m below meth c ls C hB hl => bX7_triple C p1 p2 p3 hB.1 m_isWorked m_lines m_product m_place m_ofX m_ofY m_steps m_step m_rows m_cell m_overs m_sure hB.2.1 res (fun v pc ls h hd => kr_i C h hd) hm ls hl)
theorem wm_X7_join_0 : Cond.constantLong RX7 82 (7) ∈ wsX7_join := by decide +kernel
theorem wm_X7_join_1 : Cond.fieldLink RX7 25 "SixtyTabletModel" "rows" "[I" ∈ wsX7_join := by decide +kernel
theorem wm_X7_join_2 : Cond.fieldLink RX7 28 "SixtyTabletModel" "cell" "[I" ∈ wsX7_join := by decide +kernel
theorem wi_X7_join_X7 : ∀ w ∈ wsX70, w ∈ wsX7_join := by decide +kernel
theorem kdvX7_join : yX7_join.cls = RX7 ∧ yX7_join.cls ≠ "java/lang/invoke/MethodHandle" ∧ yX7_join.cls ≠ "java/lang/invoke/VarHandle" ∧ (parseMethodDescriptor yX7_join.desc).map (fun d => d.parameters.length) = some 3 := by decide +kernel
abbrev rmX7_join : Room := { frames := 2, cells := 0, slots := 0, locals := 45 }
def mlX7_join_68 (x1 : Int32) (x2 : Int32) (x3 : Int32) (m_rows : Nat → Int32) (m_cell : Nat → Int32) (kE : Unit → Option (Int32 × (Nat → Int32) × (Nat → Int32))) : Nat → Int32 → Option (Int32 × (Nat → Int32) × (Nat → Int32))
  | 0, _ => none
  | n + 1, x4 => (if x2 < 0 ∨ 4 ≤ (Int32.toNatClampNeg x2) then none else (if ((3 : Int32) * (m_rows (Int32.toNatClampNeg x2))) ≤ x4 then (kE ()) else (if x1 < 0 ∨ 4 ≤ (Int32.toNatClampNeg x1) then none else (md_jn (fun (u_135 : Unit) => (md_let (x4 + (1 : Int32)) (fun (x4_15 : Int32) => (mlX7_join_68 x1 x2 x3 m_rows m_cell kE n x4_15)))) (fun kJ135 => (if ((3 : Int32) * (m_rows (Int32.toNatClampNeg x1))) ≤ (((3 : Int32) * x3) + x4) then (kJ135 ()) else (if ((((24 : Int32) * x1) + ((3 : Int32) * x3)) + x4) < 0 ∨ 96 ≤ (Int32.toNatClampNeg ((((24 : Int32) * x1) + ((3 : Int32) * x3)) + x4)) then none else (if (((24 : Int32) * x2) + x4) < 0 ∨ 96 ≤ (Int32.toNatClampNeg (((24 : Int32) * x2) + x4)) then none else (Option.bind (mX7_agree (m_cell (Int32.toNatClampNeg ((((24 : Int32) * x1) + ((3 : Int32) * x3)) + x4))) (m_cell (Int32.toNatClampNeg (((24 : Int32) * x2) + x4)))) (fun u19 => (if u19 = 0 then (some ((-5 : Int32), m_rows, m_cell)) else (kJ135 ()))))))))))))
set_option maxHeartbeats 4000000 in
set_option maxRecDepth 100000 in
theorem lX7_join_68 {p : Program} {l : Launch} {e : Env} {s : State} {m : MethodId} {args : Array Value} {below : List Frame} {meth : Method} {c : Code} {Q : State → Prop} (C : kc p s m args meth c cX7_join 7 RX7 yX7_join.name wsX7_join (some .int)) {D : va_G} {cI cT : ClassId} {mo m_product_a m_place_a m_ofX_a m_ofY_a m_step_a m_rows_a m_cell_a m_overs_a m_sure_a : Nat} (hK : va_K D vwCl (kTy cI cT) s) (hnd : ([mo, m_product_a, m_place_a, m_ofX_a, m_ofY_a, m_step_a, m_rows_a, m_cell_a, m_overs_a, m_sure_a] : List Nat).Nodup) (x1 : Int32) (x2 : Int32) (x3 : Int32) (m_isWorked : Int32) (m_lines : Int32) (m_product : Nat → Int32) (m_place : Nat → Int32) (m_ofX : Nat → Int32) (m_ofY : Nat → Int32) (m_steps : Int32) (m_step : Nat → Int32) (m_rows : Nat → Int32) (m_cell : Nat → Int32) (m_overs : Nat → Int32) (m_sure : Nat → Int32) (res : (Int32 × (Nat → Int32) × (Nat → Int32))) (hQ : ∀ (v : Int32) (m_rows : Nat → Int32) (m_cell : Nat → Int32) (H : Heap) (locs : List Loc) (pc : Nat) (ls : Array Slot), some (v, m_rows, m_cell) = some res → va_P D vwCl [(mo, .inr (4, [.int m_isWorked, .int m_lines, .ref m_product_a, .ref m_place_a, .ref m_ofX_a, .ref m_ofY_a, .int m_steps, .ref m_step_a, .ref m_rows_a, .ref m_cell_a, .ref m_overs_a, .ref m_sure_a])), (m_product_a, .inl (cI, 16, .inl m_product)), (m_place_a, .inl (cI, 16, .inl m_place)), (m_ofX_a, .inl (cI, 16, .inl m_ofX)), (m_ofY_a, .inl (cI, 16, .inl m_ofY)), (m_step_a, .inl (cI, 5, .inl m_step)), (m_rows_a, .inl (cI, 4, .inl m_rows)), (m_cell_a, .inl (cI, 96, .inl m_cell)), (m_overs_a, .inl (cI, 29, .inl m_overs)), (m_sure_a, .inl (cI, 24, .inl m_sure))] H → va_S (fun q => q ∈ ([mo, m_product_a, m_place_a, m_ofX_a, m_ofY_a, m_step_a, m_rows_a, m_cell_a, m_overs_a, m_sure_a] : List Nat)) s.heap H locs → decode cX7_join pc = .ok (.ireturn, 1) → W p l e rmX7_join s m args below meth c H locs 0 0 Q (F0 m pc ls [.int v])) (kE : Unit → Option (Int32 × (Nat → Int32) × (Nat → Int32))) (hE : ∀ (u_ : Unit), kE u_ = some res → ∀ (H : Heap) (locs : List Loc), va_P D vwCl [(mo, .inr (4, [.int m_isWorked, .int m_lines, .ref m_product_a, .ref m_place_a, .ref m_ofX_a, .ref m_ofY_a, .int m_steps, .ref m_step_a, .ref m_rows_a, .ref m_cell_a, .ref m_overs_a, .ref m_sure_a])), (m_product_a, .inl (cI, 16, .inl m_product)), (m_place_a, .inl (cI, 16, .inl m_place)), (m_ofX_a, .inl (cI, 16, .inl m_ofX)), (m_ofY_a, .inl (cI, 16, .inl m_ofY)), (m_step_a, .inl (cI, 5, .inl m_step)), (m_rows_a, .inl (cI, 4, .inl m_rows)), (m_cell_a, .inl (cI, 96, .inl m_cell)), (m_overs_a, .inl (cI, 29, .inl m_overs)), (m_sure_a, .inl (cI, 24, .inl m_sure))] H → va_S (fun q => q ∈ ([mo, m_product_a, m_place_a, m_ofX_a, m_ofY_a, m_step_a, m_rows_a, m_cell_a, m_overs_a, m_sure_a] : List Nat)) s.heap H locs → ∀ (ls : Array Slot), lv_has ls 7 [(0, .ref mo), (1, .int x1), (2, .int x2), (3, .int x3)] → W p l e rmX7_join s m args below meth c H locs 0 0 Q (F0 m 141 ls [])) : ∀ (n : Nat), ∀ (x4 : Int32), mlX7_join_68 x1 x2 x3 m_rows m_cell kE n x4 = some res → ∀ (H : Heap) (locs : List Loc), va_P D vwCl [(mo, .inr (4, [.int m_isWorked, .int m_lines, .ref m_product_a, .ref m_place_a, .ref m_ofX_a, .ref m_ofY_a, .int m_steps, .ref m_step_a, .ref m_rows_a, .ref m_cell_a, .ref m_overs_a, .ref m_sure_a])), (m_product_a, .inl (cI, 16, .inl m_product)), (m_place_a, .inl (cI, 16, .inl m_place)), (m_ofX_a, .inl (cI, 16, .inl m_ofX)), (m_ofY_a, .inl (cI, 16, .inl m_ofY)), (m_step_a, .inl (cI, 5, .inl m_step)), (m_rows_a, .inl (cI, 4, .inl m_rows)), (m_cell_a, .inl (cI, 96, .inl m_cell)), (m_overs_a, .inl (cI, 29, .inl m_overs)), (m_sure_a, .inl (cI, 24, .inl m_sure))] H → va_S (fun q => q ∈ ([mo, m_product_a, m_place_a, m_ofX_a, m_ofY_a, m_step_a, m_rows_a, m_cell_a, m_overs_a, m_sure_a] : List Nat)) s.heap H locs → ∀ (ls : Array Slot), lv_has ls 7 [(0, .ref mo), (1, .int x1), (2, .int x2), (3, .int x3), (4, .int x4)] → W p l e rmX7_join s m args below meth c H locs 0 0 Q (F0 m 68 ls []) := by
  have C0 := C
  obtain ⟨hx, hb, hml, hown, hts, hr, hlk, hnm⟩ := C0
  intro n
  induction n with
  | zero => intro _ h; exact md_x h
  | succ n ih =>
    intro x4 h H locs hP hS ls hl
    rw [mlX7_join_68] at h
    refine lv_iload hx hb dX7_join_68 (lv_at hl 4 rfl) ?_
    refine lv_iconst (v := 3) hx hb dX7_join_70 (by decide) ?_
    refine lv_aload_n hx hb dX7_join_71 rfl (lv_at hl 0 rfl) ?_
    refine va_get (D := D) (ci := 4) (v := .ref m_rows_a) (C := RX7) (T := TX7) (N := 12) hx hb hts wi_X7_join_X7 hown hK hP 0 rfl rfl 8 (by decide) (hts _ wm_X7_join_1) (fun _ h9 => h9) rfl dX7_join_72 ?_
    refine lv_iload_n hx hb dX7_join_75 rfl (lv_at hl 2 rfl) ?_
    obtain ⟨hin12, h⟩ := md_g h
    refine va_iald hx hb hK hP 6 0 rfl rfl hin12 dX7_join_76 ?_
    refine lv_imul hx hb dX7_join_77 ?_
    refine lv_icmp_ge (tgt := 141) hx hb dX7_join_78 (by decide) (fun c13 => ?_) (fun c13 => ?_)
    · replace h := md_t c13 h
      exact hE () h _ _ hP hS ls (lv_sub hl [0, 1, 2, 3] rfl)
    replace h := md_f c13 h
    refine lv_iconst (v := 3) hx hb dX7_join_81 (by decide) ?_
    refine lv_iload_n hx hb dX7_join_82 rfl (lv_at hl 3 rfl) ?_
    refine lv_imul hx hb dX7_join_83 ?_
    refine lv_iload hx hb dX7_join_84 (lv_at hl 4 rfl) ?_
    refine lv_iadd hx hb dX7_join_86 ?_
    refine lv_iconst (v := 3) hx hb dX7_join_87 (by decide) ?_
    refine lv_aload_n hx hb dX7_join_88 rfl (lv_at hl 0 rfl) ?_
    refine va_get (D := D) (ci := 4) (v := .ref m_rows_a) (C := RX7) (T := TX7) (N := 12) hx hb hts wi_X7_join_X7 hown hK hP 0 rfl rfl 8 (by decide) (hts _ wm_X7_join_1) (fun _ h9 => h9) rfl dX7_join_89 ?_
    refine lv_iload_n hx hb dX7_join_92 rfl (lv_at hl 1 rfl) ?_
    obtain ⟨hin14, h⟩ := md_g h
    refine va_iald hx hb hK hP 6 0 rfl rfl hin14 dX7_join_93 ?_
    refine lv_imul hx hb dX7_join_94 ?_
    obtain ⟨kJ135, ekJ135, h⟩ := md_jo h
    have KJ135 : ∀ (u_135 : Unit), kJ135 u_135 = some res → ∀ (H : Heap) (locs : List Loc), va_P D vwCl [(mo, .inr (4, [.int m_isWorked, .int m_lines, .ref m_product_a, .ref m_place_a, .ref m_ofX_a, .ref m_ofY_a, .int m_steps, .ref m_step_a, .ref m_rows_a, .ref m_cell_a, .ref m_overs_a, .ref m_sure_a])), (m_product_a, .inl (cI, 16, .inl m_product)), (m_place_a, .inl (cI, 16, .inl m_place)), (m_ofX_a, .inl (cI, 16, .inl m_ofX)), (m_ofY_a, .inl (cI, 16, .inl m_ofY)), (m_step_a, .inl (cI, 5, .inl m_step)), (m_rows_a, .inl (cI, 4, .inl m_rows)), (m_cell_a, .inl (cI, 96, .inl m_cell)), (m_overs_a, .inl (cI, 29, .inl m_overs)), (m_sure_a, .inl (cI, 24, .inl m_sure))] H → va_S (fun q => q ∈ ([mo, m_product_a, m_place_a, m_ofX_a, m_ofY_a, m_step_a, m_rows_a, m_cell_a, m_overs_a, m_sure_a] : List Nat)) s.heap H locs → ∀ (ls : Array Slot), lv_has ls 7 [(0, .ref mo), (1, .int x1), (2, .int x2), (3, .int x3), (4, .int x4)] → W p l e rmX7_join s m args below meth c H locs 0 0 Q (F0 m 135 ls []) := by
      intro u_135 h H locs hP hS ls hl
      rw [ekJ135] at h
      obtain ⟨x4_15, ex4_15⟩ : ∃ y : Int32, y = (x4 + (1 : Int32)) := ⟨_, rfl⟩
      replace h := md_le ex4_15 h
      refine lv_iinc (v := x4_15) (lv' := [(4, .int x4_15), (0, .ref mo), (1, .int x1), (2, .int x2), (3, .int x3)]) hx hb dX7_join_135 hl (k := 4) rfl (by rw [ex4_15]; rfl) (by decide) rfl (fun ls hl => ?_)
      refine lv_goto (tgt := 68) hx hb dX7_join_138 (by decide) ?_
      exact ih x4_15 h _ _ hP hS ls (lv_sub hl [1, 2, 3, 4, 0] rfl)
    clear ekJ135
    refine lv_icmp_ge (tgt := 135) hx hb dX7_join_95 (by decide) (fun c16 => ?_) (fun c16 => ?_)
    · replace h := md_t c16 h
      exact KJ135 () h _ _ hP hS ls (lv_sub hl [0, 1, 2, 3, 4] rfl)
    replace h := md_f c16 h
    refine lv_aload_n hx hb dX7_join_98 rfl (lv_at hl 0 rfl) ?_
    refine va_get (D := D) (ci := 4) (v := .ref m_cell_a) (C := RX7) (T := TX7) (N := 12) hx hb hts wi_X7_join_X7 hown hK hP 0 rfl rfl 9 (by decide) (hts _ wm_X7_join_2) (fun _ h9 => h9) rfl dX7_join_99 ?_
    refine lv_bipush (v := 24) hx hb dX7_join_102 (by decide) ?_
    refine lv_iload_n hx hb dX7_join_104 rfl (lv_at hl 1 rfl) ?_
    refine lv_imul hx hb dX7_join_105 ?_
    refine lv_iconst (v := 3) hx hb dX7_join_106 (by decide) ?_
    refine lv_iload_n hx hb dX7_join_107 rfl (lv_at hl 3 rfl) ?_
    refine lv_imul hx hb dX7_join_108 ?_
    refine lv_iadd hx hb dX7_join_109 ?_
    refine lv_iload hx hb dX7_join_110 (lv_at hl 4 rfl) ?_
    refine lv_iadd hx hb dX7_join_112 ?_
    obtain ⟨hin17, h⟩ := md_g h
    refine va_iald hx hb hK hP 7 0 rfl rfl hin17 dX7_join_113 ?_
    refine lv_aload_n hx hb dX7_join_114 rfl (lv_at hl 0 rfl) ?_
    refine va_get (D := D) (ci := 4) (v := .ref m_cell_a) (C := RX7) (T := TX7) (N := 12) hx hb hts wi_X7_join_X7 hown hK hP 0 rfl rfl 9 (by decide) (hts _ wm_X7_join_2) (fun _ h9 => h9) rfl dX7_join_115 ?_
    refine lv_bipush (v := 24) hx hb dX7_join_118 (by decide) ?_
    refine lv_iload_n hx hb dX7_join_120 rfl (lv_at hl 2 rfl) ?_
    refine lv_imul hx hb dX7_join_121 ?_
    refine lv_iload hx hb dX7_join_122 (lv_at hl 4 rfl) ?_
    refine lv_iadd hx hb dX7_join_124 ?_
    obtain ⟨hin18, h⟩ := md_g h
    refine va_iald hx hb hK hP 7 0 rfl rfl hin18 dX7_join_125 ?_
    obtain ⟨u19, hu19, h⟩ := md_b h
    refine kS C (ctX7_agree l  hu19) gX7_join_X7_agree rfl kdX7_agree ⟨rfl, rfl⟩ ⟨by decide, by decide⟩ kT_blind (fun _ _ _ => trivial) rfl hl [] rfl (Nat.le_of_ble_eq_true rfl) dX7_join_126 ⟨by decide, by decide⟩ ?_
    refine lv_if_ne (tgt := 135) hx hb dX7_join_129 (by decide) (fun c20 => ?_) (fun c20 => ?_)
    · replace h := md_f c20 h
      exact KJ135 () h _ _ hP hS ls (lv_sub hl [0, 1, 2, 3, 4] rfl)
    replace h := md_t c20 h
    refine lv_bipush (v := -5) hx hb dX7_join_132 (by decide) ?_
    exact hQ (-5 : Int32) m_rows m_cell H locs 134 ls h hP hS dX7_join_134
def mlX7_join_144 (x1 : Int32) (x2 : Int32) (x3 : Int32) (m_rows : Nat → Int32) (kE : (Nat → Int32) → Option (Int32 × (Nat → Int32) × (Nat → Int32))) : Nat → Int32 → (Nat → Int32) → Option (Int32 × (Nat → Int32) × (Nat → Int32))
  | 0, _, _ => none
  | n + 1, x4, m_cell => (if x2 < 0 ∨ 4 ≤ (Int32.toNatClampNeg x2) then none else (if ((3 : Int32) * (m_rows (Int32.toNatClampNeg x2))) ≤ x4 then (kE m_cell) else (md_let ((((24 : Int32) * x1) + ((3 : Int32) * x3)) + x4) (fun (x5_23 : Int32) => (if x1 < 0 ∨ 4 ≤ (Int32.toNatClampNeg x1) then none else (md_jn (fun (z0_202 : Int32) => (md_jn (fun (z2_237 : Int32) => (if x5_23 < 0 ∨ 96 ≤ (Int32.toNatClampNeg x5_23) then none else (md_let (upd m_cell (Int32.toNatClampNeg x5_23) z2_237) (fun (m_cell_25 : Nat → Int32) => (md_let (x4 + (1 : Int32)) (fun (x4_26 : Int32) => (mlX7_join_144 x1 x2 x3 m_rows kE n x4_26 m_cell_25))))))) (fun kJ237 => (if z0_202 = 0 then (if (((24 : Int32) * x2) + x4) < 0 ∨ 96 ≤ (Int32.toNatClampNeg (((24 : Int32) * x2) + x4)) then none else (kJ237 (m_cell (Int32.toNatClampNeg (((24 : Int32) * x2) + x4))))) else (if x5_23 < 0 ∨ 96 ≤ (Int32.toNatClampNeg x5_23) then none else (kJ237 (m_cell (Int32.toNatClampNeg x5_23)))))))) (fun kJ202 => (md_jn (fun (u_201 : Unit) => (kJ202 (0 : Int32))) (fun kJ201 => (if ((3 : Int32) * (m_rows (Int32.toNatClampNeg x1))) ≤ (((3 : Int32) * x3) + x4) then (kJ201 ()) else (if x5_23 < 0 ∨ 96 ≤ (Int32.toNatClampNeg x5_23) then none else (if (m_cell (Int32.toNatClampNeg x5_23)) ≤ 0 then (kJ201 ()) else (kJ202 (1 : Int32))))))))))))))
set_option maxHeartbeats 4000000 in
set_option maxRecDepth 100000 in
theorem lX7_join_144 {p : Program} {l : Launch} {e : Env} {s : State} {m : MethodId} {args : Array Value} {below : List Frame} {meth : Method} {c : Code} {Q : State → Prop} (C : kc p s m args meth c cX7_join 7 RX7 yX7_join.name wsX7_join (some .int)) {D : va_G} {cI cT : ClassId} {mo m_product_a m_place_a m_ofX_a m_ofY_a m_step_a m_rows_a m_cell_a m_overs_a m_sure_a : Nat} (hK : va_K D vwCl (kTy cI cT) s) (hnd : ([mo, m_product_a, m_place_a, m_ofX_a, m_ofY_a, m_step_a, m_rows_a, m_cell_a, m_overs_a, m_sure_a] : List Nat).Nodup) (x1 : Int32) (x2 : Int32) (x3 : Int32) (m_isWorked : Int32) (m_lines : Int32) (m_product : Nat → Int32) (m_place : Nat → Int32) (m_ofX : Nat → Int32) (m_ofY : Nat → Int32) (m_steps : Int32) (m_step : Nat → Int32) (m_rows : Nat → Int32) (m_overs : Nat → Int32) (m_sure : Nat → Int32) (res : (Int32 × (Nat → Int32) × (Nat → Int32))) (hQ : ∀ (v : Int32) (m_rows : Nat → Int32) (m_cell : Nat → Int32) (H : Heap) (locs : List Loc) (pc : Nat) (ls : Array Slot), some (v, m_rows, m_cell) = some res → va_P D vwCl [(mo, .inr (4, [.int m_isWorked, .int m_lines, .ref m_product_a, .ref m_place_a, .ref m_ofX_a, .ref m_ofY_a, .int m_steps, .ref m_step_a, .ref m_rows_a, .ref m_cell_a, .ref m_overs_a, .ref m_sure_a])), (m_product_a, .inl (cI, 16, .inl m_product)), (m_place_a, .inl (cI, 16, .inl m_place)), (m_ofX_a, .inl (cI, 16, .inl m_ofX)), (m_ofY_a, .inl (cI, 16, .inl m_ofY)), (m_step_a, .inl (cI, 5, .inl m_step)), (m_rows_a, .inl (cI, 4, .inl m_rows)), (m_cell_a, .inl (cI, 96, .inl m_cell)), (m_overs_a, .inl (cI, 29, .inl m_overs)), (m_sure_a, .inl (cI, 24, .inl m_sure))] H → va_S (fun q => q ∈ ([mo, m_product_a, m_place_a, m_ofX_a, m_ofY_a, m_step_a, m_rows_a, m_cell_a, m_overs_a, m_sure_a] : List Nat)) s.heap H locs → decode cX7_join pc = .ok (.ireturn, 1) → W p l e rmX7_join s m args below meth c H locs 0 0 Q (F0 m pc ls [.int v])) (kE : (Nat → Int32) → Option (Int32 × (Nat → Int32) × (Nat → Int32))) (hE : ∀ (m_cell : Nat → Int32), kE m_cell = some res → ∀ (H : Heap) (locs : List Loc), va_P D vwCl [(mo, .inr (4, [.int m_isWorked, .int m_lines, .ref m_product_a, .ref m_place_a, .ref m_ofX_a, .ref m_ofY_a, .int m_steps, .ref m_step_a, .ref m_rows_a, .ref m_cell_a, .ref m_overs_a, .ref m_sure_a])), (m_product_a, .inl (cI, 16, .inl m_product)), (m_place_a, .inl (cI, 16, .inl m_place)), (m_ofX_a, .inl (cI, 16, .inl m_ofX)), (m_ofY_a, .inl (cI, 16, .inl m_ofY)), (m_step_a, .inl (cI, 5, .inl m_step)), (m_rows_a, .inl (cI, 4, .inl m_rows)), (m_cell_a, .inl (cI, 96, .inl m_cell)), (m_overs_a, .inl (cI, 29, .inl m_overs)), (m_sure_a, .inl (cI, 24, .inl m_sure))] H → va_S (fun q => q ∈ ([mo, m_product_a, m_place_a, m_ofX_a, m_ofY_a, m_step_a, m_rows_a, m_cell_a, m_overs_a, m_sure_a] : List Nat)) s.heap H locs → ∀ (ls : Array Slot), lv_has ls 7 [(0, .ref mo), (1, .int x1), (2, .int x2), (3, .int x3)] → W p l e rmX7_join s m args below meth c H locs 0 0 Q (F0 m 244 ls [])) : ∀ (n : Nat), ∀ (x4 : Int32) (m_cell : Nat → Int32), mlX7_join_144 x1 x2 x3 m_rows kE n x4 m_cell = some res → ∀ (H : Heap) (locs : List Loc), va_P D vwCl [(mo, .inr (4, [.int m_isWorked, .int m_lines, .ref m_product_a, .ref m_place_a, .ref m_ofX_a, .ref m_ofY_a, .int m_steps, .ref m_step_a, .ref m_rows_a, .ref m_cell_a, .ref m_overs_a, .ref m_sure_a])), (m_product_a, .inl (cI, 16, .inl m_product)), (m_place_a, .inl (cI, 16, .inl m_place)), (m_ofX_a, .inl (cI, 16, .inl m_ofX)), (m_ofY_a, .inl (cI, 16, .inl m_ofY)), (m_step_a, .inl (cI, 5, .inl m_step)), (m_rows_a, .inl (cI, 4, .inl m_rows)), (m_cell_a, .inl (cI, 96, .inl m_cell)), (m_overs_a, .inl (cI, 29, .inl m_overs)), (m_sure_a, .inl (cI, 24, .inl m_sure))] H → va_S (fun q => q ∈ ([mo, m_product_a, m_place_a, m_ofX_a, m_ofY_a, m_step_a, m_rows_a, m_cell_a, m_overs_a, m_sure_a] : List Nat)) s.heap H locs → ∀ (ls : Array Slot), lv_has ls 7 [(0, .ref mo), (1, .int x1), (2, .int x2), (3, .int x3), (4, .int x4)] → W p l e rmX7_join s m args below meth c H locs 0 0 Q (F0 m 144 ls []) := by
  have C0 := C
  obtain ⟨hx, hb, hml, hown, hts, hr, hlk, hnm⟩ := C0
  intro n
  induction n with
  | zero => intro _ _ h; exact md_x h
  | succ n ih =>
    intro x4 m_cell h H locs hP hS ls hl
    rw [mlX7_join_144] at h
    refine lv_iload hx hb dX7_join_144 (lv_at hl 4 rfl) ?_
    refine lv_iconst (v := 3) hx hb dX7_join_146 (by decide) ?_
    refine lv_aload_n hx hb dX7_join_147 rfl (lv_at hl 0 rfl) ?_
    refine va_get (D := D) (ci := 4) (v := .ref m_rows_a) (C := RX7) (T := TX7) (N := 12) hx hb hts wi_X7_join_X7 hown hK hP 0 rfl rfl 8 (by decide) (hts _ wm_X7_join_1) (fun _ h9 => h9) rfl dX7_join_148 ?_
    refine lv_iload_n hx hb dX7_join_151 rfl (lv_at hl 2 rfl) ?_
    obtain ⟨hin21, h⟩ := md_g h
    refine va_iald hx hb hK hP 6 0 rfl rfl hin21 dX7_join_152 ?_
    refine lv_imul hx hb dX7_join_153 ?_
    refine lv_icmp_ge (tgt := 244) hx hb dX7_join_154 (by decide) (fun c22 => ?_) (fun c22 => ?_)
    · replace h := md_t c22 h
      exact hE m_cell h _ _ hP hS ls (lv_sub hl [0, 1, 2, 3] rfl)
    replace h := md_f c22 h
    refine lv_bipush (v := 24) hx hb dX7_join_157 (by decide) ?_
    refine lv_iload_n hx hb dX7_join_159 rfl (lv_at hl 1 rfl) ?_
    refine lv_imul hx hb dX7_join_160 ?_
    refine lv_iconst (v := 3) hx hb dX7_join_161 (by decide) ?_
    refine lv_iload_n hx hb dX7_join_162 rfl (lv_at hl 3 rfl) ?_
    refine lv_imul hx hb dX7_join_163 ?_
    refine lv_iadd hx hb dX7_join_164 ?_
    refine lv_iload hx hb dX7_join_165 (lv_at hl 4 rfl) ?_
    refine lv_iadd hx hb dX7_join_167 ?_
    refine lv_topi (fun x5_23 ex5_23 => ?_)
    replace h := md_le ex5_23 h
    refine lv_istore (lv' := [(5, .int x5_23), (0, .ref mo), (1, .int x1), (2, .int x2), (3, .int x3), (4, .int x4)]) hx hb dX7_join_168 hl (by decide) rfl (fun ls hl => ?_)
    refine lv_iconst (v := 3) hx hb dX7_join_170 (by decide) ?_
    refine lv_iload_n hx hb dX7_join_171 rfl (lv_at hl 4 rfl) ?_
    refine lv_imul hx hb dX7_join_172 ?_
    refine lv_iload hx hb dX7_join_173 (lv_at hl 5 rfl) ?_
    refine lv_iadd hx hb dX7_join_175 ?_
    refine lv_iconst (v := 3) hx hb dX7_join_176 (by decide) ?_
    refine lv_aload_n hx hb dX7_join_177 rfl (lv_at hl 1 rfl) ?_
    refine va_get (D := D) (ci := 4) (v := .ref m_rows_a) (C := RX7) (T := TX7) (N := 12) hx hb hts wi_X7_join_X7 hown hK hP 0 rfl rfl 8 (by decide) (hts _ wm_X7_join_1) (fun _ h9 => h9) rfl dX7_join_178 ?_
    refine lv_iload_n hx hb dX7_join_181 rfl (lv_at hl 2 rfl) ?_
    obtain ⟨hin24, h⟩ := md_g h
    refine va_iald hx hb hK hP 6 0 rfl rfl hin24 dX7_join_182 ?_
    refine lv_imul hx hb dX7_join_183 ?_
    obtain ⟨kJ202, ekJ202, h⟩ := md_jo h
    have KJ202 : ∀ (z0_202 : Int32), kJ202 z0_202 = some res → ∀ (H : Heap) (locs : List Loc), va_P D vwCl [(mo, .inr (4, [.int m_isWorked, .int m_lines, .ref m_product_a, .ref m_place_a, .ref m_ofX_a, .ref m_ofY_a, .int m_steps, .ref m_step_a, .ref m_rows_a, .ref m_cell_a, .ref m_overs_a, .ref m_sure_a])), (m_product_a, .inl (cI, 16, .inl m_product)), (m_place_a, .inl (cI, 16, .inl m_place)), (m_ofX_a, .inl (cI, 16, .inl m_ofX)), (m_ofY_a, .inl (cI, 16, .inl m_ofY)), (m_step_a, .inl (cI, 5, .inl m_step)), (m_rows_a, .inl (cI, 4, .inl m_rows)), (m_cell_a, .inl (cI, 96, .inl m_cell)), (m_overs_a, .inl (cI, 29, .inl m_overs)), (m_sure_a, .inl (cI, 24, .inl m_sure))] H → va_S (fun q => q ∈ ([mo, m_product_a, m_place_a, m_ofX_a, m_ofY_a, m_step_a, m_rows_a, m_cell_a, m_overs_a, m_sure_a] : List Nat)) s.heap H locs → ∀ (ls : Array Slot), lv_has ls 7 [(0, .ref mo), (1, .int x1), (2, .int x2), (3, .int x3), (4, .int x4), (5, .int x5_23)] → W p l e rmX7_join s m args below meth c H locs 0 0 Q (F0 m 202 ls [.int z0_202]) := by
      intro z0_202 h H locs hP hS ls hl
      rw [ekJ202] at h
      refine lv_istore (lv' := [(6, .int z0_202), (0, .ref mo), (1, .int x1), (2, .int x2), (3, .int x3), (4, .int x4), (5, .int x5_23)]) hx hb dX7_join_202 hl (by decide) rfl (fun ls hl => ?_)
      refine lv_aload_n hx hb dX7_join_204 rfl (lv_at hl 1 rfl) ?_
      refine va_get (D := D) (ci := 4) (v := .ref m_cell_a) (C := RX7) (T := TX7) (N := 12) hx hb hts wi_X7_join_X7 hown hK hP 0 rfl rfl 9 (by decide) (hts _ wm_X7_join_2) (fun _ h9 => h9) rfl dX7_join_205 ?_
      refine lv_iload hx hb dX7_join_208 (lv_at hl 6 rfl) ?_
      refine lv_iload hx hb dX7_join_210 (lv_at hl 0 rfl) ?_
      obtain ⟨kJ237, ekJ237, h⟩ := md_jo h
      have KJ237 : ∀ (z2_237 : Int32), kJ237 z2_237 = some res → ∀ (H : Heap) (locs : List Loc), va_P D vwCl [(mo, .inr (4, [.int m_isWorked, .int m_lines, .ref m_product_a, .ref m_place_a, .ref m_ofX_a, .ref m_ofY_a, .int m_steps, .ref m_step_a, .ref m_rows_a, .ref m_cell_a, .ref m_overs_a, .ref m_sure_a])), (m_product_a, .inl (cI, 16, .inl m_product)), (m_place_a, .inl (cI, 16, .inl m_place)), (m_ofX_a, .inl (cI, 16, .inl m_ofX)), (m_ofY_a, .inl (cI, 16, .inl m_ofY)), (m_step_a, .inl (cI, 5, .inl m_step)), (m_rows_a, .inl (cI, 4, .inl m_rows)), (m_cell_a, .inl (cI, 96, .inl m_cell)), (m_overs_a, .inl (cI, 29, .inl m_overs)), (m_sure_a, .inl (cI, 24, .inl m_sure))] H → va_S (fun q => q ∈ ([mo, m_product_a, m_place_a, m_ofX_a, m_ofY_a, m_step_a, m_rows_a, m_cell_a, m_overs_a, m_sure_a] : List Nat)) s.heap H locs → ∀ (ls : Array Slot), lv_has ls 7 [(0, .ref mo), (1, .int x1), (2, .int x2), (3, .int x3), (4, .int x4)] → W p l e rmX7_join s m args below meth c H locs 0 0 Q (F0 m 237 ls [.int z2_237, .int x5_23, .ref m_cell_a]) := by
        intro z2_237 h H locs hP hS ls hl
        rw [ekJ237] at h
        obtain ⟨hin25, h⟩ := md_g h
        refine va_iast hx hb hK hP (kD hnd rfl) hS 7 0 rfl rfl hin25 dX7_join_237 (fun H locs hP _ hS => ?_)
        have hP : va_P D vwCl [(mo, .inr (4, [.int m_isWorked, .int m_lines, .ref m_product_a, .ref m_place_a, .ref m_ofX_a, .ref m_ofY_a, .int m_steps, .ref m_step_a, .ref m_rows_a, .ref m_cell_a, .ref m_overs_a, .ref m_sure_a])), (m_product_a, .inl (cI, 16, .inl m_product)), (m_place_a, .inl (cI, 16, .inl m_place)), (m_ofX_a, .inl (cI, 16, .inl m_ofX)), (m_ofY_a, .inl (cI, 16, .inl m_ofY)), (m_step_a, .inl (cI, 5, .inl m_step)), (m_rows_a, .inl (cI, 4, .inl m_rows)), (m_cell_a, .inl (cI, 96, .inl (upd m_cell (Int32.toNatClampNeg x5_23) z2_237))), (m_overs_a, .inl (cI, 29, .inl m_overs)), (m_sure_a, .inl (cI, 24, .inl m_sure))] H := hP
        obtain ⟨m_cell_25, em_cell_25⟩ : ∃ y : Nat → Int32, y = (upd m_cell (Int32.toNatClampNeg x5_23) z2_237) := ⟨_, rfl⟩
        replace h := md_le em_cell_25 h
        rw [← em_cell_25] at hP
        obtain ⟨x4_26, ex4_26⟩ : ∃ y : Int32, y = (x4 + (1 : Int32)) := ⟨_, rfl⟩
        replace h := md_le ex4_26 h
        refine lv_iinc (v := x4_26) (lv' := [(4, .int x4_26), (0, .ref mo), (1, .int x1), (2, .int x2), (3, .int x3)]) hx hb dX7_join_238 hl (k := 4) rfl (by rw [ex4_26]; rfl) (by decide) rfl (fun ls hl => ?_)
        refine lv_goto (tgt := 144) hx hb dX7_join_241 (by decide) ?_
        exact ih x4_26 m_cell_25 h _ _ hP hS ls (lv_sub hl [1, 2, 3, 4, 0] rfl)
      clear ekJ237
      refine lv_if_eq (tgt := 225) hx hb dX7_join_212 (by decide) (fun c27 => ?_) (fun c27 => ?_)
      · replace h := md_t c27 h
        refine lv_aload_n hx hb dX7_join_225 rfl (lv_at hl 1 rfl) ?_
        refine va_get (D := D) (ci := 4) (v := .ref m_cell_a) (C := RX7) (T := TX7) (N := 12) hx hb hts wi_X7_join_X7 hown hK hP 0 rfl rfl 9 (by decide) (hts _ wm_X7_join_2) (fun _ h9 => h9) rfl dX7_join_226 ?_
        refine lv_bipush (v := 24) hx hb dX7_join_229 (by decide) ?_
        refine lv_iload_n hx hb dX7_join_231 rfl (lv_at hl 3 rfl) ?_
        refine lv_imul hx hb dX7_join_232 ?_
        refine lv_iload hx hb dX7_join_233 (lv_at hl 5 rfl) ?_
        refine lv_iadd hx hb dX7_join_235 ?_
        obtain ⟨hin28, h⟩ := md_g h
        refine va_iald hx hb hK hP 7 0 rfl rfl hin28 dX7_join_236 ?_
        exact KJ237 (m_cell (Int32.toNatClampNeg (((24 : Int32) * x2) + x4))) h _ _ hP hS ls (lv_sub hl [1, 2, 3, 4, 5] rfl)
      replace h := md_f c27 h
      refine lv_aload_n hx hb dX7_join_215 rfl (lv_at hl 1 rfl) ?_
      refine va_get (D := D) (ci := 4) (v := .ref m_cell_a) (C := RX7) (T := TX7) (N := 12) hx hb hts wi_X7_join_X7 hown hK hP 0 rfl rfl 9 (by decide) (hts _ wm_X7_join_2) (fun _ h9 => h9) rfl dX7_join_216 ?_
      refine lv_iload hx hb dX7_join_219 (lv_at hl 6 rfl) ?_
      obtain ⟨hin29, h⟩ := md_g h
      refine va_iald hx hb hK hP 7 0 rfl rfl hin29 dX7_join_221 ?_
      refine lv_goto (tgt := 237) hx hb dX7_join_222 (by decide) ?_
      exact KJ237 (m_cell (Int32.toNatClampNeg x5_23)) h _ _ hP hS ls (lv_sub hl [1, 2, 3, 4, 5] rfl)
    clear ekJ202
    obtain ⟨kJ201, ekJ201, h⟩ := md_jo h
    have KJ201 : ∀ (u_201 : Unit), kJ201 u_201 = some res → ∀ (H : Heap) (locs : List Loc), va_P D vwCl [(mo, .inr (4, [.int m_isWorked, .int m_lines, .ref m_product_a, .ref m_place_a, .ref m_ofX_a, .ref m_ofY_a, .int m_steps, .ref m_step_a, .ref m_rows_a, .ref m_cell_a, .ref m_overs_a, .ref m_sure_a])), (m_product_a, .inl (cI, 16, .inl m_product)), (m_place_a, .inl (cI, 16, .inl m_place)), (m_ofX_a, .inl (cI, 16, .inl m_ofX)), (m_ofY_a, .inl (cI, 16, .inl m_ofY)), (m_step_a, .inl (cI, 5, .inl m_step)), (m_rows_a, .inl (cI, 4, .inl m_rows)), (m_cell_a, .inl (cI, 96, .inl m_cell)), (m_overs_a, .inl (cI, 29, .inl m_overs)), (m_sure_a, .inl (cI, 24, .inl m_sure))] H → va_S (fun q => q ∈ ([mo, m_product_a, m_place_a, m_ofX_a, m_ofY_a, m_step_a, m_rows_a, m_cell_a, m_overs_a, m_sure_a] : List Nat)) s.heap H locs → ∀ (ls : Array Slot), lv_has ls 7 [(0, .ref mo), (1, .int x1), (2, .int x2), (3, .int x3), (4, .int x4), (5, .int x5_23)] → W p l e rmX7_join s m args below meth c H locs 0 0 Q (F0 m 201 ls []) := by
      intro u_201 h H locs hP hS ls hl
      rw [ekJ201] at h
      refine lv_iconst (v := 0) hx hb dX7_join_201 (by decide) ?_
      exact KJ202 (0 : Int32) h _ _ hP hS ls (lv_sub hl [0, 1, 2, 3, 4, 5] rfl)
    clear ekJ201
    refine lv_icmp_ge (tgt := 201) hx hb dX7_join_184 (by decide) (fun c30 => ?_) (fun c30 => ?_)
    · replace h := md_t c30 h
      exact KJ201 () h _ _ hP hS ls (lv_sub hl [1, 2, 3, 4, 5, 0] rfl)
    replace h := md_f c30 h
    refine lv_aload_n hx hb dX7_join_187 rfl (lv_at hl 1 rfl) ?_
    refine va_get (D := D) (ci := 4) (v := .ref m_cell_a) (C := RX7) (T := TX7) (N := 12) hx hb hts wi_X7_join_X7 hown hK hP 0 rfl rfl 9 (by decide) (hts _ wm_X7_join_2) (fun _ h9 => h9) rfl dX7_join_188 ?_
    refine lv_iload hx hb dX7_join_191 (lv_at hl 0 rfl) ?_
    obtain ⟨hin31, h⟩ := md_g h
    refine va_iald hx hb hK hP 7 0 rfl rfl hin31 dX7_join_193 ?_
    refine lv_if_le (tgt := 201) hx hb dX7_join_194 (by decide) (fun c32 => ?_) (fun c32 => ?_)
    · replace h := md_t c32 h
      exact KJ201 () h _ _ hP hS ls (lv_sub hl [1, 2, 3, 4, 5, 0] rfl)
    replace h := md_f c32 h
    refine lv_iconst (v := 1) hx hb dX7_join_197 (by decide) ?_
    refine lv_goto (tgt := 202) hx hb dX7_join_198 (by decide) ?_
    exact KJ202 (1 : Int32) h _ _ hP hS ls (lv_sub hl [1, 2, 3, 4, 5, 0] rfl)
def mX7_join (m_rows : Nat → Int32) (m_cell : Nat → Int32) (p1 : Int32) (p2 : Int32) (p3 : Int32) : Option (Int32 × (Nat → Int32) × (Nat → Int32)) := (Option.bind (mX7_isTablet p1) (fun u1 => (if u1 = 0 then (some ((-1 : Int32), m_rows, m_cell)) else (Option.bind (mX7_isTablet p2) (fun u3 => (if u3 = 0 then (some ((-1 : Int32), m_rows, m_cell)) else (if p1 = p2 then (some ((-1 : Int32), m_rows, m_cell)) else (Option.bind (mX7_in (Int32.toInt64 p3) (0 : Int64) (7 : Int64)) (fun u6 => (if u6 = 0 then (some ((-2 : Int32), m_rows, m_cell)) else (if p1 < 0 ∨ 4 ≤ (Int32.toNatClampNeg p1) then none else (if p3 ≤ (m_rows (Int32.toNatClampNeg p1)) then (if p2 < 0 ∨ 4 ≤ (Int32.toNatClampNeg p2) then none else (if (p3 + (m_rows (Int32.toNatClampNeg p2))) ≤ (8 : Int32) then (mlX7_join_68 p1 p2 p3 m_rows m_cell (fun (u_141 : Unit) => (mlX7_join_144 p1 p2 p3 m_rows (fun (m_cell_244 : Nat → Int32) => (if p2 < 0 ∨ 4 ≤ (Int32.toNatClampNeg p2) then none else (if p1 < 0 ∨ 4 ≤ (Int32.toNatClampNeg p1) then none else (md_jn (fun (z2_283 : Int32) => (if p1 < 0 ∨ 4 ≤ (Int32.toNatClampNeg p1) then none else (md_let (upd m_rows (Int32.toNatClampNeg p1) z2_283) (fun (m_rows_35 : Nat → Int32) => (if p1 < 0 ∨ 4 ≤ (Int32.toNatClampNeg p1) then none else (some ((m_rows_35 (Int32.toNatClampNeg p1)), m_rows_35, m_cell_244))))))) (fun kJ283 => (if (p3 + (m_rows (Int32.toNatClampNeg p2))) ≤ (m_rows (Int32.toNatClampNeg p1)) then (if p1 < 0 ∨ 4 ≤ (Int32.toNatClampNeg p1) then none else (kJ283 (m_rows (Int32.toNatClampNeg p1)))) else (if p2 < 0 ∨ 4 ≤ (Int32.toNatClampNeg p2) then none else (kJ283 (p3 + (m_rows (Int32.toNatClampNeg p2))))))))))) kN (0 : Int32) m_cell)) kN (0 : Int32)) else (some ((-4 : Int32), m_rows, m_cell)))) else (some ((-3 : Int32), m_rows, m_cell))))))))))))))
set_option maxHeartbeats 4000000 in
set_option maxRecDepth 100000 in
theorem bX7_join {p : Program} {l : Launch} {e : Env} {s : State} {m : MethodId} {args : Array Value} {below : List Frame} {meth : Method} {c : Code} {Q : State → Prop} (C : kc p s m args meth c cX7_join 7 RX7 yX7_join.name wsX7_join (some .int)) {D : va_G} {cI cT : ClassId} {mo m_product_a m_place_a m_ofX_a m_ofY_a m_step_a m_rows_a m_cell_a m_overs_a m_sure_a : Nat} (p1 : Int32) (p2 : Int32) (p3 : Int32) (hK : va_K D vwCl (kTy cI cT) s) (hnd : ([mo, m_product_a, m_place_a, m_ofX_a, m_ofY_a, m_step_a, m_rows_a, m_cell_a, m_overs_a, m_sure_a] : List Nat).Nodup) (m_isWorked : Int32) (m_lines : Int32) (m_product : Nat → Int32) (m_place : Nat → Int32) (m_ofX : Nat → Int32) (m_ofY : Nat → Int32) (m_steps : Int32) (m_step : Nat → Int32) (m_rows : Nat → Int32) (m_cell : Nat → Int32) (m_overs : Nat → Int32) (m_sure : Nat → Int32) (res : (Int32 × (Nat → Int32) × (Nat → Int32))) (hQ : ∀ (v : Int32) (m_rows : Nat → Int32) (m_cell : Nat → Int32) (H : Heap) (locs : List Loc) (pc : Nat) (ls : Array Slot), some (v, m_rows, m_cell) = some res → va_P D vwCl [(mo, .inr (4, [.int m_isWorked, .int m_lines, .ref m_product_a, .ref m_place_a, .ref m_ofX_a, .ref m_ofY_a, .int m_steps, .ref m_step_a, .ref m_rows_a, .ref m_cell_a, .ref m_overs_a, .ref m_sure_a])), (m_product_a, .inl (cI, 16, .inl m_product)), (m_place_a, .inl (cI, 16, .inl m_place)), (m_ofX_a, .inl (cI, 16, .inl m_ofX)), (m_ofY_a, .inl (cI, 16, .inl m_ofY)), (m_step_a, .inl (cI, 5, .inl m_step)), (m_rows_a, .inl (cI, 4, .inl m_rows)), (m_cell_a, .inl (cI, 96, .inl m_cell)), (m_overs_a, .inl (cI, 29, .inl m_overs)), (m_sure_a, .inl (cI, 24, .inl m_sure))] H → va_S (fun q => q ∈ ([mo, m_product_a, m_place_a, m_ofX_a, m_ofY_a, m_step_a, m_rows_a, m_cell_a, m_overs_a, m_sure_a] : List Nat)) s.heap H locs → decode cX7_join pc = .ok (.ireturn, 1) → W p l e rmX7_join s m args below meth c H locs 0 0 Q (F0 m pc ls [.int v])) : mX7_join m_rows m_cell p1 p2 p3 = some res → ∀ (H : Heap) (locs : List Loc), va_P D vwCl [(mo, .inr (4, [.int m_isWorked, .int m_lines, .ref m_product_a, .ref m_place_a, .ref m_ofX_a, .ref m_ofY_a, .int m_steps, .ref m_step_a, .ref m_rows_a, .ref m_cell_a, .ref m_overs_a, .ref m_sure_a])), (m_product_a, .inl (cI, 16, .inl m_product)), (m_place_a, .inl (cI, 16, .inl m_place)), (m_ofX_a, .inl (cI, 16, .inl m_ofX)), (m_ofY_a, .inl (cI, 16, .inl m_ofY)), (m_step_a, .inl (cI, 5, .inl m_step)), (m_rows_a, .inl (cI, 4, .inl m_rows)), (m_cell_a, .inl (cI, 96, .inl m_cell)), (m_overs_a, .inl (cI, 29, .inl m_overs)), (m_sure_a, .inl (cI, 24, .inl m_sure))] H → va_S (fun q => q ∈ ([mo, m_product_a, m_place_a, m_ofX_a, m_ofY_a, m_step_a, m_rows_a, m_cell_a, m_overs_a, m_sure_a] : List Nat)) s.heap H locs → ∀ (ls : Array Slot), lv_has ls 7 [(0, .ref mo), (1, .int p1), (2, .int p2), (3, .int p3)] → W p l e rmX7_join s m args below meth c H locs 0 0 Q (F0 m 0 ls []) := by
  intro h H locs hP hS ls hl
  have C0 := C
  obtain ⟨hx, hb, hml, hown, hts, hr, hlk, hnm⟩ := C0
  rw [mX7_join] at h
  refine lv_iload_n hx hb dX7_join_0 rfl (lv_at hl 1 rfl) ?_
  obtain ⟨u1, hu1, h⟩ := md_b h
  refine kS C (ctX7_isTablet l  hu1) gX7_join_X7_isTablet rfl kdX7_isTablet ⟨rfl, rfl⟩ ⟨by decide, by decide⟩ kT_blind (fun _ _ _ => trivial) rfl hl [] rfl (Nat.le_of_ble_eq_true rfl) dX7_join_1 ⟨by decide, by decide⟩ ?_
  refine lv_if_eq (tgt := 19) hx hb dX7_join_4 (by decide) (fun c2 => ?_) (fun c2 => ?_)
  · replace h := md_t c2 h
    refine lv_iconst (v := -1) hx hb dX7_join_19 (by decide) ?_
    exact hQ (-1 : Int32) m_rows m_cell H locs 20 ls h hP hS dX7_join_20
  replace h := md_f c2 h
  refine lv_iload_n hx hb dX7_join_7 rfl (lv_at hl 2 rfl) ?_
  obtain ⟨u3, hu3, h⟩ := md_b h
  refine kS C (ctX7_isTablet l  hu3) gX7_join_X7_isTablet rfl kdX7_isTablet ⟨rfl, rfl⟩ ⟨by decide, by decide⟩ kT_blind (fun _ _ _ => trivial) rfl hl [] rfl (Nat.le_of_ble_eq_true rfl) dX7_join_8 ⟨by decide, by decide⟩ ?_
  refine lv_if_eq (tgt := 19) hx hb dX7_join_11 (by decide) (fun c4 => ?_) (fun c4 => ?_)
  · replace h := md_t c4 h
    refine lv_iconst (v := -1) hx hb dX7_join_19 (by decide) ?_
    exact hQ (-1 : Int32) m_rows m_cell H locs 20 ls h hP hS dX7_join_20
  replace h := md_f c4 h
  refine lv_iload_n hx hb dX7_join_14 rfl (lv_at hl 1 rfl) ?_
  refine lv_iload_n hx hb dX7_join_15 rfl (lv_at hl 2 rfl) ?_
  refine lv_icmp_ne (tgt := 21) hx hb dX7_join_16 (by decide) (fun c5 => ?_) (fun c5 => ?_)
  · replace h := md_f c5 h
    refine lv_iload_n hx hb dX7_join_21 rfl (lv_at hl 3 rfl) ?_
    refine lv_i2l hx hb dX7_join_22 rfl ?_
    refine lv_lconst (v := 0) hx hb dX7_join_23 (by decide) ?_
    refine lv_ldc2 hx hb hown (hts _ wm_X7_join_0) dX7_join_24 ?_
    obtain ⟨u6, hu6, h⟩ := md_b h
    refine kS C (ctX7_in l  hu6) gX7_join_X7_in rfl kdX7_in ⟨rfl, rfl⟩ ⟨by decide, by decide⟩ kT_blind (fun _ _ _ => trivial) rfl hl [] rfl (Nat.le_of_ble_eq_true rfl) dX7_join_27 ⟨by decide, by decide⟩ ?_
    refine lv_if_ne (tgt := 36) hx hb dX7_join_30 (by decide) (fun c7 => ?_) (fun c7 => ?_)
    · replace h := md_f c7 h
      refine lv_iload_n hx hb dX7_join_36 rfl (lv_at hl 3 rfl) ?_
      refine lv_aload_n hx hb dX7_join_37 rfl (lv_at hl 0 rfl) ?_
      refine va_get (D := D) (ci := 4) (v := .ref m_rows_a) (C := RX7) (T := TX7) (N := 12) hx hb hts wi_X7_join_X7 hown hK hP 0 rfl rfl 8 (by decide) (hts _ wm_X7_join_1) (fun _ h9 => h9) rfl dX7_join_38 ?_
      refine lv_iload_n hx hb dX7_join_41 rfl (lv_at hl 1 rfl) ?_
      obtain ⟨hin8, h⟩ := md_g h
      refine va_iald hx hb hK hP 6 0 rfl rfl hin8 dX7_join_42 ?_
      refine lv_icmp_le (tgt := 49) hx hb dX7_join_43 (by decide) (fun c9 => ?_) (fun c9 => ?_)
      · replace h := md_t c9 h
        refine lv_iload_n hx hb dX7_join_49 rfl (lv_at hl 3 rfl) ?_
        refine lv_aload_n hx hb dX7_join_50 rfl (lv_at hl 0 rfl) ?_
        refine va_get (D := D) (ci := 4) (v := .ref m_rows_a) (C := RX7) (T := TX7) (N := 12) hx hb hts wi_X7_join_X7 hown hK hP 0 rfl rfl 8 (by decide) (hts _ wm_X7_join_1) (fun _ h9 => h9) rfl dX7_join_51 ?_
        refine lv_iload_n hx hb dX7_join_54 rfl (lv_at hl 2 rfl) ?_
        obtain ⟨hin10, h⟩ := md_g h
        refine va_iald hx hb hK hP 6 0 rfl rfl hin10 dX7_join_55 ?_
        refine lv_iadd hx hb dX7_join_56 ?_
        refine lv_bipush (v := 8) hx hb dX7_join_57 (by decide) ?_
        refine lv_icmp_le (tgt := 65) hx hb dX7_join_59 (by decide) (fun c11 => ?_) (fun c11 => ?_)
        · replace h := md_t c11 h
          refine lv_iconst (v := 0) hx hb dX7_join_65 (by decide) ?_
          refine lv_istore (lv' := [(4, .int (0 : Int32)), (0, .ref mo), (1, .int p1), (2, .int p2), (3, .int p3)]) hx hb dX7_join_66 hl (by decide) rfl (fun ls hl => ?_)
          refine lX7_join_68 (mo := mo) (m_product_a := m_product_a) (m_place_a := m_place_a) (m_ofX_a := m_ofX_a) (m_ofY_a := m_ofY_a) (m_step_a := m_step_a) (m_rows_a := m_rows_a) (m_cell_a := m_cell_a) (m_overs_a := m_overs_a) (m_sure_a := m_sure_a) C hK hnd p1 p2 p3 m_isWorked m_lines m_product m_place m_ofX m_ofY m_steps m_step m_rows m_cell m_overs m_sure res hQ _ (fun u_141 h H locs hP hS ls hl => ?_) kN (0 : Int32) h _ _ hP hS ls (lv_sub hl [1, 2, 3, 4, 0] rfl)
          refine lv_iconst (v := 0) hx hb dX7_join_141 (by decide) ?_
          refine lv_istore (lv' := [(4, .int (0 : Int32)), (0, .ref mo), (1, .int p1), (2, .int p2), (3, .int p3)]) hx hb dX7_join_142 hl (by decide) rfl (fun ls hl => ?_)
          refine lX7_join_144 (mo := mo) (m_product_a := m_product_a) (m_place_a := m_place_a) (m_ofX_a := m_ofX_a) (m_ofY_a := m_ofY_a) (m_step_a := m_step_a) (m_rows_a := m_rows_a) (m_cell_a := m_cell_a) (m_overs_a := m_overs_a) (m_sure_a := m_sure_a) C hK hnd p1 p2 p3 m_isWorked m_lines m_product m_place m_ofX m_ofY m_steps m_step m_rows m_overs m_sure res hQ _ (fun m_cell_244 h H locs hP hS ls hl => ?_) kN (0 : Int32) m_cell h _ _ hP hS ls (lv_sub hl [1, 2, 3, 4, 0] rfl)
          refine lv_aload_n hx hb dX7_join_244 rfl (lv_at hl 0 rfl) ?_
          refine va_get (D := D) (ci := 4) (v := .ref m_rows_a) (C := RX7) (T := TX7) (N := 12) hx hb hts wi_X7_join_X7 hown hK hP 0 rfl rfl 8 (by decide) (hts _ wm_X7_join_1) (fun _ h9 => h9) rfl dX7_join_245 ?_
          refine lv_iload_n hx hb dX7_join_248 rfl (lv_at hl 1 rfl) ?_
          refine lv_iload_n hx hb dX7_join_249 rfl (lv_at hl 3 rfl) ?_
          refine lv_aload_n hx hb dX7_join_250 rfl (lv_at hl 0 rfl) ?_
          refine va_get (D := D) (ci := 4) (v := .ref m_rows_a) (C := RX7) (T := TX7) (N := 12) hx hb hts wi_X7_join_X7 hown hK hP 0 rfl rfl 8 (by decide) (hts _ wm_X7_join_1) (fun _ h9 => h9) rfl dX7_join_251 ?_
          refine lv_iload_n hx hb dX7_join_254 rfl (lv_at hl 2 rfl) ?_
          obtain ⟨hin33, h⟩ := md_g h
          refine va_iald hx hb hK hP 6 0 rfl rfl hin33 dX7_join_255 ?_
          refine lv_iadd hx hb dX7_join_256 ?_
          refine lv_aload_n hx hb dX7_join_257 rfl (lv_at hl 0 rfl) ?_
          refine va_get (D := D) (ci := 4) (v := .ref m_rows_a) (C := RX7) (T := TX7) (N := 12) hx hb hts wi_X7_join_X7 hown hK hP 0 rfl rfl 8 (by decide) (hts _ wm_X7_join_1) (fun _ h9 => h9) rfl dX7_join_258 ?_
          refine lv_iload_n hx hb dX7_join_261 rfl (lv_at hl 1 rfl) ?_
          obtain ⟨hin34, h⟩ := md_g h
          refine va_iald hx hb hK hP 6 0 rfl rfl hin34 dX7_join_262 ?_
          obtain ⟨kJ283, ekJ283, h⟩ := md_jo h
          have KJ283 : ∀ (z2_283 : Int32), kJ283 z2_283 = some res → ∀ (H : Heap) (locs : List Loc), va_P D vwCl [(mo, .inr (4, [.int m_isWorked, .int m_lines, .ref m_product_a, .ref m_place_a, .ref m_ofX_a, .ref m_ofY_a, .int m_steps, .ref m_step_a, .ref m_rows_a, .ref m_cell_a, .ref m_overs_a, .ref m_sure_a])), (m_product_a, .inl (cI, 16, .inl m_product)), (m_place_a, .inl (cI, 16, .inl m_place)), (m_ofX_a, .inl (cI, 16, .inl m_ofX)), (m_ofY_a, .inl (cI, 16, .inl m_ofY)), (m_step_a, .inl (cI, 5, .inl m_step)), (m_rows_a, .inl (cI, 4, .inl m_rows)), (m_cell_a, .inl (cI, 96, .inl m_cell_244)), (m_overs_a, .inl (cI, 29, .inl m_overs)), (m_sure_a, .inl (cI, 24, .inl m_sure))] H → va_S (fun q => q ∈ ([mo, m_product_a, m_place_a, m_ofX_a, m_ofY_a, m_step_a, m_rows_a, m_cell_a, m_overs_a, m_sure_a] : List Nat)) s.heap H locs → ∀ (ls : Array Slot), lv_has ls 7 [(0, .ref mo), (1, .int p1)] → W p l e rmX7_join s m args below meth c H locs 0 0 Q (F0 m 283 ls [.int z2_283, .int p1, .ref m_rows_a]) := by
            intro z2_283 h H locs hP hS ls hl
            rw [ekJ283] at h
            obtain ⟨hin35, h⟩ := md_g h
            refine va_iast hx hb hK hP (kD hnd rfl) hS 6 0 rfl rfl hin35 dX7_join_283 (fun H locs hP _ hS => ?_)
            have hP : va_P D vwCl [(mo, .inr (4, [.int m_isWorked, .int m_lines, .ref m_product_a, .ref m_place_a, .ref m_ofX_a, .ref m_ofY_a, .int m_steps, .ref m_step_a, .ref m_rows_a, .ref m_cell_a, .ref m_overs_a, .ref m_sure_a])), (m_product_a, .inl (cI, 16, .inl m_product)), (m_place_a, .inl (cI, 16, .inl m_place)), (m_ofX_a, .inl (cI, 16, .inl m_ofX)), (m_ofY_a, .inl (cI, 16, .inl m_ofY)), (m_step_a, .inl (cI, 5, .inl m_step)), (m_rows_a, .inl (cI, 4, .inl (upd m_rows (Int32.toNatClampNeg p1) z2_283))), (m_cell_a, .inl (cI, 96, .inl m_cell_244)), (m_overs_a, .inl (cI, 29, .inl m_overs)), (m_sure_a, .inl (cI, 24, .inl m_sure))] H := hP
            obtain ⟨m_rows_35, em_rows_35⟩ : ∃ y : Nat → Int32, y = (upd m_rows (Int32.toNatClampNeg p1) z2_283) := ⟨_, rfl⟩
            replace h := md_le em_rows_35 h
            rw [← em_rows_35] at hP
            refine lv_aload_n hx hb dX7_join_284 rfl (lv_at hl 0 rfl) ?_
            refine va_get (D := D) (ci := 4) (v := .ref m_rows_a) (C := RX7) (T := TX7) (N := 12) hx hb hts wi_X7_join_X7 hown hK hP 0 rfl rfl 8 (by decide) (hts _ wm_X7_join_1) (fun _ h9 => h9) rfl dX7_join_285 ?_
            refine lv_iload_n hx hb dX7_join_288 rfl (lv_at hl 1 rfl) ?_
            obtain ⟨hin36, h⟩ := md_g h
            refine va_iald hx hb hK hP 6 0 rfl rfl hin36 dX7_join_289 ?_
            exact hQ (m_rows_35 (Int32.toNatClampNeg p1)) m_rows_35 m_cell_244 H locs 290 ls h hP hS dX7_join_290
          clear ekJ283
          refine lv_icmp_le (tgt := 277) hx hb dX7_join_263 (by decide) (fun c37 => ?_) (fun c37 => ?_)
          · replace h := md_t c37 h
            refine lv_aload_n hx hb dX7_join_277 rfl (lv_at hl 0 rfl) ?_
            refine va_get (D := D) (ci := 4) (v := .ref m_rows_a) (C := RX7) (T := TX7) (N := 12) hx hb hts wi_X7_join_X7 hown hK hP 0 rfl rfl 8 (by decide) (hts _ wm_X7_join_1) (fun _ h9 => h9) rfl dX7_join_278 ?_
            refine lv_iload_n hx hb dX7_join_281 rfl (lv_at hl 1 rfl) ?_
            obtain ⟨hin38, h⟩ := md_g h
            refine va_iald hx hb hK hP 6 0 rfl rfl hin38 dX7_join_282 ?_
            exact KJ283 (m_rows (Int32.toNatClampNeg p1)) h _ _ hP hS ls (lv_sub hl [0, 1] rfl)
          replace h := md_f c37 h
          refine lv_iload_n hx hb dX7_join_266 rfl (lv_at hl 3 rfl) ?_
          refine lv_aload_n hx hb dX7_join_267 rfl (lv_at hl 0 rfl) ?_
          refine va_get (D := D) (ci := 4) (v := .ref m_rows_a) (C := RX7) (T := TX7) (N := 12) hx hb hts wi_X7_join_X7 hown hK hP 0 rfl rfl 8 (by decide) (hts _ wm_X7_join_1) (fun _ h9 => h9) rfl dX7_join_268 ?_
          refine lv_iload_n hx hb dX7_join_271 rfl (lv_at hl 2 rfl) ?_
          obtain ⟨hin39, h⟩ := md_g h
          refine va_iald hx hb hK hP 6 0 rfl rfl hin39 dX7_join_272 ?_
          refine lv_iadd hx hb dX7_join_273 ?_
          refine lv_goto (tgt := 283) hx hb dX7_join_274 (by decide) ?_
          exact KJ283 (p3 + (m_rows (Int32.toNatClampNeg p2))) h _ _ hP hS ls (lv_sub hl [0, 1] rfl)
        replace h := md_f c11 h
        refine lv_bipush (v := -4) hx hb dX7_join_62 (by decide) ?_
        exact hQ (-4 : Int32) m_rows m_cell H locs 64 ls h hP hS dX7_join_64
      replace h := md_f c9 h
      refine lv_bipush (v := -3) hx hb dX7_join_46 (by decide) ?_
      exact hQ (-3 : Int32) m_rows m_cell H locs 48 ls h hP hS dX7_join_48
    replace h := md_t c7 h
    refine lv_bipush (v := -2) hx hb dX7_join_33 (by decide) ?_
    exact hQ (-2 : Int32) m_rows m_cell H locs 35 ls h hP hS dX7_join_35
  replace h := md_t c5 h
  refine lv_iconst (v := -1) hx hb dX7_join_19 (by decide) ?_
  exact hQ (-1 : Int32) m_rows m_cell H locs 20 ls h hP hS dX7_join_20
set_option maxHeartbeats 4000000 in
theorem ctX7_join (l : Launch) {D : va_G} {cI cT : ClassId} {mo m_product_a m_place_a m_ofX_a m_ofY_a m_step_a m_rows_a m_cell_a m_overs_a m_sure_a : Nat} {m_isWorked : Int32} {m_lines : Int32} {m_product : Nat → Int32} {m_place : Nat → Int32} {m_ofX : Nat → Int32} {m_ofY : Nat → Int32} {m_steps : Int32} {m_step : Nat → Int32} {m_rows : Nat → Int32} {m_cell : Nat → Int32} {m_overs : Nat → Int32} {m_sure : Nat → Int32} {p1 : Int32} {p2 : Int32} {p3 : Int32} {res : (Int32 × (Nat → Int32) × (Nat → Int32))} (hnd : ([mo, m_product_a, m_place_a, m_ofX_a, m_ofY_a, m_step_a, m_rows_a, m_cell_a, m_overs_a, m_sure_a] : List Nat).Nodup) (hm : mX7_join m_rows m_cell p1 p2 p3 = some res) : Met l yX7_join wsX7_join rmX7_join (va_Pc [.ref mo, .int p1, .int p2, .int p3] (kW D cI cT [(mo, .inr (4, [.int m_isWorked, .int m_lines, .ref m_product_a, .ref m_place_a, .ref m_ofX_a, .ref m_ofY_a, .int m_steps, .ref m_step_a, .ref m_rows_a, .ref m_cell_a, .ref m_overs_a, .ref m_sure_a])), (m_product_a, .inl (cI, 16, .inl m_product)), (m_place_a, .inl (cI, 16, .inl m_place)), (m_ofX_a, .inl (cI, 16, .inl m_ofX)), (m_ofY_a, .inl (cI, 16, .inl m_ofY)), (m_step_a, .inl (cI, 5, .inl m_step)), (m_rows_a, .inl (cI, 4, .inl m_rows)), (m_cell_a, .inl (cI, 96, .inl m_cell)), (m_overs_a, .inl (cI, 29, .inl m_overs)), (m_sure_a, .inl (cI, 24, .inl m_sure))] none (fun q => q ∈ ([mo, m_product_a, m_place_a, m_ofX_a, m_ofY_a, m_step_a, m_rows_a, m_cell_a, m_overs_a, m_sure_a] : List Nat)))) (kX (some (.int res.1)) D [(mo, .inr (4, [.int m_isWorked, .int m_lines, .ref m_product_a, .ref m_place_a, .ref m_ofX_a, .ref m_ofY_a, .int m_steps, .ref m_step_a, .ref m_rows_a, .ref m_cell_a, .ref m_overs_a, .ref m_sure_a])), (m_product_a, .inl (cI, 16, .inl m_product)), (m_place_a, .inl (cI, 16, .inl m_place)), (m_ofX_a, .inl (cI, 16, .inl m_ofX)), (m_ofY_a, .inl (cI, 16, .inl m_ofY)), (m_step_a, .inl (cI, 5, .inl m_step)), (m_rows_a, .inl (cI, 4, .inl res.2.1)), (m_cell_a, .inl (cI, 96, .inl res.2.2)), (m_overs_a, .inl (cI, 29, .inl m_overs)), (m_sure_a, .inl (cI, 24, .inl m_sure))] (fun q => q ∈ ([mo, m_product_a, m_place_a, m_ofX_a, m_ofY_a, m_step_a, m_rows_a, m_cell_a, m_overs_a, m_sure_a] : List Nat))) 0 0 (fun q => q ∈ ([mo, m_product_a, m_place_a, m_ofX_a, m_ofY_a, m_step_a, m_rows_a, m_cell_a, m_overs_a, m_sure_a] : List Nat)) :=
  km (by decide) rfl (Nat.le_of_ble_eq_true rfl) (fun p e s m below meth c ls C hB hl => bX7_join C p1 p2 p3 hB.1 hnd m_isWorked m_lines m_product m_place m_ofX m_ofY m_steps m_step m_rows m_cell m_overs m_sure res (fun v m_rows1 m_cell1 H locs pc ls h hP hS hd => by obtain rfl := Option.some.inj h; exact kx_i C hP hS hd) hm s.heap [] hB.2.1 va_S.rf ls hl)
theorem wm_X7_unit_0 : Cond.constantLong RX7 99 (2) ∈ wsX7_unit := by decide +kernel
theorem wm_X7_unit_1 : Cond.constantLong RX7 213 (100) ∈ wsX7_unit := by decide +kernel
theorem wm_X7_unit_2 : Cond.fieldLink RX7 215 "SixtyTabletModel" "steps" "I" ∈ wsX7_unit := by decide +kernel
theorem wm_X7_unit_3 : Cond.fieldLink RX7 22 "SixtyTabletModel" "step" "[I" ∈ wsX7_unit := by decide +kernel
theorem wi_X7_unit_X7 : ∀ w ∈ wsX70, w ∈ wsX7_unit := by decide +kernel
theorem kdvX7_unit : yX7_unit.cls = RX7 ∧ yX7_unit.cls ≠ "java/lang/invoke/MethodHandle" ∧ yX7_unit.cls ≠ "java/lang/invoke/VarHandle" ∧ (parseMethodDescriptor yX7_unit.desc).map (fun d => d.parameters.length) = some 1 := by decide +kernel
abbrev rmX7_unit : Room := { frames := 1, cells := 0, slots := 0, locals := 25 }
def mX7_unit (m_steps : Int32) (m_step : Nat → Int32) (p1 : Int32) : Option (Int32 × Int32 × (Nat → Int32)) := (Option.bind (mX7_in (Int32.toInt64 p1) (2 : Int64) (100 : Int64)) (fun u1 => (if u1 = 0 then (some ((-2 : Int32), m_steps, m_step)) else (if m_steps = (5 : Int32) then (some ((-4 : Int32), m_steps, m_step)) else (if m_steps < 0 ∨ 5 ≤ (Int32.toNatClampNeg m_steps) then none else (md_let (upd m_step (Int32.toNatClampNeg m_steps) p1) (fun (m_step_4 : Nat → Int32) => (md_let (m_steps + (1 : Int32)) (fun (f_5 : Int32) => (some (f_5, f_5, m_step_4)))))))))))
set_option maxHeartbeats 4000000 in
set_option maxRecDepth 100000 in
theorem bX7_unit {p : Program} {l : Launch} {e : Env} {s : State} {m : MethodId} {args : Array Value} {below : List Frame} {meth : Method} {c : Code} {Q : State → Prop} (C : kc p s m args meth c cX7_unit 2 RX7 yX7_unit.name wsX7_unit (some .int)) {D : va_G} {cI cT : ClassId} {mo m_product_a m_place_a m_ofX_a m_ofY_a m_step_a m_rows_a m_cell_a m_overs_a m_sure_a : Nat} (p1 : Int32) (hK : va_K D vwCl (kTy cI cT) s) (hnd : ([mo, m_product_a, m_place_a, m_ofX_a, m_ofY_a, m_step_a, m_rows_a, m_cell_a, m_overs_a, m_sure_a] : List Nat).Nodup) (m_isWorked : Int32) (m_lines : Int32) (m_product : Nat → Int32) (m_place : Nat → Int32) (m_ofX : Nat → Int32) (m_ofY : Nat → Int32) (m_steps : Int32) (m_step : Nat → Int32) (m_rows : Nat → Int32) (m_cell : Nat → Int32) (m_overs : Nat → Int32) (m_sure : Nat → Int32) (res : (Int32 × Int32 × (Nat → Int32))) (hQ : ∀ (v : Int32) (m_steps : Int32) (m_step : Nat → Int32) (H : Heap) (locs : List Loc) (pc : Nat) (ls : Array Slot), some (v, m_steps, m_step) = some res → va_P D vwCl [(mo, .inr (4, [.int m_isWorked, .int m_lines, .ref m_product_a, .ref m_place_a, .ref m_ofX_a, .ref m_ofY_a, .int m_steps, .ref m_step_a, .ref m_rows_a, .ref m_cell_a, .ref m_overs_a, .ref m_sure_a])), (m_product_a, .inl (cI, 16, .inl m_product)), (m_place_a, .inl (cI, 16, .inl m_place)), (m_ofX_a, .inl (cI, 16, .inl m_ofX)), (m_ofY_a, .inl (cI, 16, .inl m_ofY)), (m_step_a, .inl (cI, 5, .inl m_step)), (m_rows_a, .inl (cI, 4, .inl m_rows)), (m_cell_a, .inl (cI, 96, .inl m_cell)), (m_overs_a, .inl (cI, 29, .inl m_overs)), (m_sure_a, .inl (cI, 24, .inl m_sure))] H → va_S (fun q => q ∈ ([mo, m_product_a, m_place_a, m_ofX_a, m_ofY_a, m_step_a, m_rows_a, m_cell_a, m_overs_a, m_sure_a] : List Nat)) s.heap H locs → decode cX7_unit pc = .ok (.ireturn, 1) → W p l e rmX7_unit s m args below meth c H locs 0 0 Q (F0 m pc ls [.int v])) : mX7_unit m_steps m_step p1 = some res → ∀ (H : Heap) (locs : List Loc), va_P D vwCl [(mo, .inr (4, [.int m_isWorked, .int m_lines, .ref m_product_a, .ref m_place_a, .ref m_ofX_a, .ref m_ofY_a, .int m_steps, .ref m_step_a, .ref m_rows_a, .ref m_cell_a, .ref m_overs_a, .ref m_sure_a])), (m_product_a, .inl (cI, 16, .inl m_product)), (m_place_a, .inl (cI, 16, .inl m_place)), (m_ofX_a, .inl (cI, 16, .inl m_ofX)), (m_ofY_a, .inl (cI, 16, .inl m_ofY)), (m_step_a, .inl (cI, 5, .inl m_step)), (m_rows_a, .inl (cI, 4, .inl m_rows)), (m_cell_a, .inl (cI, 96, .inl m_cell)), (m_overs_a, .inl (cI, 29, .inl m_overs)), (m_sure_a, .inl (cI, 24, .inl m_sure))] H → va_S (fun q => q ∈ ([mo, m_product_a, m_place_a, m_ofX_a, m_ofY_a, m_step_a, m_rows_a, m_cell_a, m_overs_a, m_sure_a] : List Nat)) s.heap H locs → ∀ (ls : Array Slot), lv_has ls 2 [(0, .ref mo), (1, .int p1)] → W p l e rmX7_unit s m args below meth c H locs 0 0 Q (F0 m 0 ls []) := by
  intro h H locs hP hS ls hl
  have C0 := C
  obtain ⟨hx, hb, hml, hown, hts, hr, hlk, hnm⟩ := C0
  rw [mX7_unit] at h
  refine lv_iload_n hx hb dX7_unit_0 rfl (lv_at hl 1 rfl) ?_
  refine lv_i2l hx hb dX7_unit_1 rfl ?_
  refine lv_ldc2 hx hb hown (hts _ wm_X7_unit_0) dX7_unit_2 ?_
  refine lv_ldc2 hx hb hown (hts _ wm_X7_unit_1) dX7_unit_5 ?_
  obtain ⟨u1, hu1, h⟩ := md_b h
  refine kS C (ctX7_in l  hu1) gX7_unit_X7_in rfl kdX7_in ⟨rfl, rfl⟩ ⟨by decide, by decide⟩ kT_blind (fun _ _ _ => trivial) rfl hl [] rfl (Nat.le_of_ble_eq_true rfl) dX7_unit_8 ⟨by decide, by decide⟩ ?_
  refine lv_if_ne (tgt := 17) hx hb dX7_unit_11 (by decide) (fun c2 => ?_) (fun c2 => ?_)
  · replace h := md_f c2 h
    refine lv_aload_n hx hb dX7_unit_17 rfl (lv_at hl 0 rfl) ?_
    refine va_get (D := D) (ci := 4) (v := .int m_steps) (C := RX7) (T := TX7) (N := 12) hx hb hts wi_X7_unit_X7 hown hK hP 0 rfl rfl 6 (by decide) (hts _ wm_X7_unit_2) (fun _ h9 => h9) rfl dX7_unit_18 ?_
    refine lv_iconst (v := 5) hx hb dX7_unit_21 (by decide) ?_
    refine lv_icmp_ne (tgt := 28) hx hb dX7_unit_22 (by decide) (fun c3 => ?_) (fun c3 => ?_)
    · replace h := md_f c3 h
      refine lv_aload_n hx hb dX7_unit_28 rfl (lv_at hl 0 rfl) ?_
      refine va_get (D := D) (ci := 4) (v := .ref m_step_a) (C := RX7) (T := TX7) (N := 12) hx hb hts wi_X7_unit_X7 hown hK hP 0 rfl rfl 7 (by decide) (hts _ wm_X7_unit_3) (fun _ h9 => h9) rfl dX7_unit_29 ?_
      refine lv_aload_n hx hb dX7_unit_32 rfl (lv_at hl 0 rfl) ?_
      refine va_get (D := D) (ci := 4) (v := .int m_steps) (C := RX7) (T := TX7) (N := 12) hx hb hts wi_X7_unit_X7 hown hK hP 0 rfl rfl 6 (by decide) (hts _ wm_X7_unit_2) (fun _ h9 => h9) rfl dX7_unit_33 ?_
      refine lv_iload_n hx hb dX7_unit_36 rfl (lv_at hl 1 rfl) ?_
      obtain ⟨hin4, h⟩ := md_g h
      refine va_iast hx hb hK hP (kD hnd rfl) hS 5 0 rfl rfl hin4 dX7_unit_37 (fun H locs hP _ hS => ?_)
      have hP : va_P D vwCl [(mo, .inr (4, [.int m_isWorked, .int m_lines, .ref m_product_a, .ref m_place_a, .ref m_ofX_a, .ref m_ofY_a, .int m_steps, .ref m_step_a, .ref m_rows_a, .ref m_cell_a, .ref m_overs_a, .ref m_sure_a])), (m_product_a, .inl (cI, 16, .inl m_product)), (m_place_a, .inl (cI, 16, .inl m_place)), (m_ofX_a, .inl (cI, 16, .inl m_ofX)), (m_ofY_a, .inl (cI, 16, .inl m_ofY)), (m_step_a, .inl (cI, 5, .inl (upd m_step (Int32.toNatClampNeg m_steps) p1))), (m_rows_a, .inl (cI, 4, .inl m_rows)), (m_cell_a, .inl (cI, 96, .inl m_cell)), (m_overs_a, .inl (cI, 29, .inl m_overs)), (m_sure_a, .inl (cI, 24, .inl m_sure))] H := hP
      obtain ⟨m_step_4, em_step_4⟩ : ∃ y : Nat → Int32, y = (upd m_step (Int32.toNatClampNeg m_steps) p1) := ⟨_, rfl⟩
      replace h := md_le em_step_4 h
      rw [← em_step_4] at hP
      refine lv_aload_n hx hb dX7_unit_38 rfl (lv_at hl 0 rfl) ?_
      refine lv_dup hx hb dX7_unit_39 rfl ?_
      refine va_get (D := D) (ci := 4) (v := .int m_steps) (C := RX7) (T := TX7) (N := 12) hx hb hts wi_X7_unit_X7 hown hK hP 0 rfl rfl 6 (by decide) (hts _ wm_X7_unit_2) (fun _ h9 => h9) rfl dX7_unit_40 ?_
      refine lv_iconst (v := 1) hx hb dX7_unit_43 (by decide) ?_
      refine lv_iadd hx hb dX7_unit_44 ?_
      refine lv_topi (fun f_5 ef_5 => ?_)
      replace h := md_le ef_5 h
      refine va_put (D := D) (ci := 4) (v := .int f_5) (ty := .int) (C := RX7) (T := TX7) (N := 12) hx hb hts wi_X7_unit_X7 tyX7 tyX7_ok nmX7 hown hK hP (kD hnd rfl) hS 0 rfl rfl 6 (by decide) (hts _ wm_X7_unit_2) (fun _ h9 => h9) rfl (by decide +kernel) rfl rfl (Nat.le_of_ble_eq_true rfl) dX7_unit_45 (fun H locs hP _ hS => ?_)
      have hP : va_P D vwCl [(mo, .inr (4, [.int m_isWorked, .int m_lines, .ref m_product_a, .ref m_place_a, .ref m_ofX_a, .ref m_ofY_a, .int f_5, .ref m_step_a, .ref m_rows_a, .ref m_cell_a, .ref m_overs_a, .ref m_sure_a])), (m_product_a, .inl (cI, 16, .inl m_product)), (m_place_a, .inl (cI, 16, .inl m_place)), (m_ofX_a, .inl (cI, 16, .inl m_ofX)), (m_ofY_a, .inl (cI, 16, .inl m_ofY)), (m_step_a, .inl (cI, 5, .inl m_step_4)), (m_rows_a, .inl (cI, 4, .inl m_rows)), (m_cell_a, .inl (cI, 96, .inl m_cell)), (m_overs_a, .inl (cI, 29, .inl m_overs)), (m_sure_a, .inl (cI, 24, .inl m_sure))] H := hP
      refine lv_aload_n hx hb dX7_unit_48 rfl (lv_at hl 0 rfl) ?_
      refine va_get (D := D) (ci := 4) (v := .int f_5) (C := RX7) (T := TX7) (N := 12) hx hb hts wi_X7_unit_X7 hown hK hP 0 rfl rfl 6 (by decide) (hts _ wm_X7_unit_2) (fun _ h9 => h9) rfl dX7_unit_49 ?_
      exact hQ f_5 f_5 m_step_4 H locs 52 ls h hP hS dX7_unit_52
    replace h := md_t c3 h
    refine lv_bipush (v := -4) hx hb dX7_unit_25 (by decide) ?_
    exact hQ (-4 : Int32) m_steps m_step H locs 27 ls h hP hS dX7_unit_27
  replace h := md_t c2 h
  refine lv_bipush (v := -2) hx hb dX7_unit_14 (by decide) ?_
  exact hQ (-2 : Int32) m_steps m_step H locs 16 ls h hP hS dX7_unit_16
set_option maxHeartbeats 4000000 in
theorem ctX7_unit (l : Launch) {D : va_G} {cI cT : ClassId} {mo m_product_a m_place_a m_ofX_a m_ofY_a m_step_a m_rows_a m_cell_a m_overs_a m_sure_a : Nat} {m_isWorked : Int32} {m_lines : Int32} {m_product : Nat → Int32} {m_place : Nat → Int32} {m_ofX : Nat → Int32} {m_ofY : Nat → Int32} {m_steps : Int32} {m_step : Nat → Int32} {m_rows : Nat → Int32} {m_cell : Nat → Int32} {m_overs : Nat → Int32} {m_sure : Nat → Int32} {p1 : Int32} {res : (Int32 × Int32 × (Nat → Int32))} (hnd : ([mo, m_product_a, m_place_a, m_ofX_a, m_ofY_a, m_step_a, m_rows_a, m_cell_a, m_overs_a, m_sure_a] : List Nat).Nodup) (hm : mX7_unit m_steps m_step p1 = some res) : Met l yX7_unit wsX7_unit rmX7_unit (va_Pc [.ref mo, .int p1] (kW D cI cT [(mo, .inr (4, [.int m_isWorked, .int m_lines, .ref m_product_a, .ref m_place_a, .ref m_ofX_a, .ref m_ofY_a, .int m_steps, .ref m_step_a, .ref m_rows_a, .ref m_cell_a, .ref m_overs_a, .ref m_sure_a])), (m_product_a, .inl (cI, 16, .inl m_product)), (m_place_a, .inl (cI, 16, .inl m_place)), (m_ofX_a, .inl (cI, 16, .inl m_ofX)), (m_ofY_a, .inl (cI, 16, .inl m_ofY)), (m_step_a, .inl (cI, 5, .inl m_step)), (m_rows_a, .inl (cI, 4, .inl m_rows)), (m_cell_a, .inl (cI, 96, .inl m_cell)), (m_overs_a, .inl (cI, 29, .inl m_overs)), (m_sure_a, .inl (cI, 24, .inl m_sure))] none (fun q => q ∈ ([mo, m_product_a, m_place_a, m_ofX_a, m_ofY_a, m_step_a, m_rows_a, m_cell_a, m_overs_a, m_sure_a] : List Nat)))) (kX (some (.int res.1)) D [(mo, .inr (4, [.int m_isWorked, .int m_lines, .ref m_product_a, .ref m_place_a, .ref m_ofX_a, .ref m_ofY_a, .int res.2.1, .ref m_step_a, .ref m_rows_a, .ref m_cell_a, .ref m_overs_a, .ref m_sure_a])), (m_product_a, .inl (cI, 16, .inl m_product)), (m_place_a, .inl (cI, 16, .inl m_place)), (m_ofX_a, .inl (cI, 16, .inl m_ofX)), (m_ofY_a, .inl (cI, 16, .inl m_ofY)), (m_step_a, .inl (cI, 5, .inl res.2.2)), (m_rows_a, .inl (cI, 4, .inl m_rows)), (m_cell_a, .inl (cI, 96, .inl m_cell)), (m_overs_a, .inl (cI, 29, .inl m_overs)), (m_sure_a, .inl (cI, 24, .inl m_sure))] (fun q => q ∈ ([mo, m_product_a, m_place_a, m_ofX_a, m_ofY_a, m_step_a, m_rows_a, m_cell_a, m_overs_a, m_sure_a] : List Nat))) 0 0 (fun q => q ∈ ([mo, m_product_a, m_place_a, m_ofX_a, m_ofY_a, m_step_a, m_rows_a, m_cell_a, m_overs_a, m_sure_a] : List Nat)) :=
  km (by decide) rfl (Nat.le_of_ble_eq_true rfl) (fun p e s m below meth c ls C hB hl => bX7_unit C p1 hB.1 hnd m_isWorked m_lines m_product m_place m_ofX m_ofY m_steps m_step m_rows m_cell m_overs m_sure res (fun v m_steps1 m_step1 H locs pc ls h hP hS hd => by obtain rfl := Option.some.inj h; exact kx_i C hP hS hd) hm s.heap [] hB.2.1 va_S.rf ls hl)
theorem wm_X7_wipe_0 : Cond.fieldLink RX7 215 "SixtyTabletModel" "steps" "I" ∈ wsX7_wipe := by decide +kernel
theorem wi_X7_wipe_X7 : ∀ w ∈ wsX70, w ∈ wsX7_wipe := by decide +kernel
theorem kdvX7_wipe : yX7_wipe.cls = RX7 ∧ yX7_wipe.cls ≠ "java/lang/invoke/MethodHandle" ∧ yX7_wipe.cls ≠ "java/lang/invoke/VarHandle" ∧ (parseMethodDescriptor yX7_wipe.desc).map (fun d => d.parameters.length) = some 0 := by decide +kernel
abbrev rmX7_wipe : Room := { frames := 0, cells := 0, slots := 0, locals := 0 }
def mX7_wipe (m_steps : Int32) : Option (Int32 × Int32) := (some (m_steps, (0 : Int32)))
set_option maxHeartbeats 4000000 in
set_option maxRecDepth 100000 in
theorem bX7_wipe {p : Program} {l : Launch} {e : Env} {s : State} {m : MethodId} {args : Array Value} {below : List Frame} {meth : Method} {c : Code} {Q : State → Prop} (C : kc p s m args meth c cX7_wipe 2 RX7 yX7_wipe.name wsX7_wipe (some .int)) {D : va_G} {cI cT : ClassId} {mo m_product_a m_place_a m_ofX_a m_ofY_a m_step_a m_rows_a m_cell_a m_overs_a m_sure_a : Nat} (hK : va_K D vwCl (kTy cI cT) s) (hnd : ([mo, m_product_a, m_place_a, m_ofX_a, m_ofY_a, m_step_a, m_rows_a, m_cell_a, m_overs_a, m_sure_a] : List Nat).Nodup) (m_isWorked : Int32) (m_lines : Int32) (m_product : Nat → Int32) (m_place : Nat → Int32) (m_ofX : Nat → Int32) (m_ofY : Nat → Int32) (m_steps : Int32) (m_step : Nat → Int32) (m_rows : Nat → Int32) (m_cell : Nat → Int32) (m_overs : Nat → Int32) (m_sure : Nat → Int32) (res : (Int32 × Int32)) (hQ : ∀ (v : Int32) (m_steps : Int32) (H : Heap) (locs : List Loc) (pc : Nat) (ls : Array Slot), some (v, m_steps) = some res → va_P D vwCl [(mo, .inr (4, [.int m_isWorked, .int m_lines, .ref m_product_a, .ref m_place_a, .ref m_ofX_a, .ref m_ofY_a, .int m_steps, .ref m_step_a, .ref m_rows_a, .ref m_cell_a, .ref m_overs_a, .ref m_sure_a])), (m_product_a, .inl (cI, 16, .inl m_product)), (m_place_a, .inl (cI, 16, .inl m_place)), (m_ofX_a, .inl (cI, 16, .inl m_ofX)), (m_ofY_a, .inl (cI, 16, .inl m_ofY)), (m_step_a, .inl (cI, 5, .inl m_step)), (m_rows_a, .inl (cI, 4, .inl m_rows)), (m_cell_a, .inl (cI, 96, .inl m_cell)), (m_overs_a, .inl (cI, 29, .inl m_overs)), (m_sure_a, .inl (cI, 24, .inl m_sure))] H → va_S (fun q => q ∈ ([mo, m_product_a, m_place_a, m_ofX_a, m_ofY_a, m_step_a, m_rows_a, m_cell_a, m_overs_a, m_sure_a] : List Nat)) s.heap H locs → decode cX7_wipe pc = .ok (.ireturn, 1) → W p l e rmX7_wipe s m args below meth c H locs 0 0 Q (F0 m pc ls [.int v])) : mX7_wipe m_steps = some res → ∀ (H : Heap) (locs : List Loc), va_P D vwCl [(mo, .inr (4, [.int m_isWorked, .int m_lines, .ref m_product_a, .ref m_place_a, .ref m_ofX_a, .ref m_ofY_a, .int m_steps, .ref m_step_a, .ref m_rows_a, .ref m_cell_a, .ref m_overs_a, .ref m_sure_a])), (m_product_a, .inl (cI, 16, .inl m_product)), (m_place_a, .inl (cI, 16, .inl m_place)), (m_ofX_a, .inl (cI, 16, .inl m_ofX)), (m_ofY_a, .inl (cI, 16, .inl m_ofY)), (m_step_a, .inl (cI, 5, .inl m_step)), (m_rows_a, .inl (cI, 4, .inl m_rows)), (m_cell_a, .inl (cI, 96, .inl m_cell)), (m_overs_a, .inl (cI, 29, .inl m_overs)), (m_sure_a, .inl (cI, 24, .inl m_sure))] H → va_S (fun q => q ∈ ([mo, m_product_a, m_place_a, m_ofX_a, m_ofY_a, m_step_a, m_rows_a, m_cell_a, m_overs_a, m_sure_a] : List Nat)) s.heap H locs → ∀ (ls : Array Slot), lv_has ls 2 [(0, .ref mo)] → W p l e rmX7_wipe s m args below meth c H locs 0 0 Q (F0 m 0 ls []) := by
  intro h H locs hP hS ls hl
  have C0 := C
  obtain ⟨hx, hb, hml, hown, hts, hr, hlk, hnm⟩ := C0
  rw [mX7_wipe] at h
  refine lv_aload_n hx hb dX7_wipe_0 rfl (lv_at hl 0 rfl) ?_
  refine va_get (D := D) (ci := 4) (v := .int m_steps) (C := RX7) (T := TX7) (N := 12) hx hb hts wi_X7_wipe_X7 hown hK hP 0 rfl rfl 6 (by decide) (hts _ wm_X7_wipe_0) (fun _ h9 => h9) rfl dX7_wipe_1 ?_
  refine lv_istore_n (lv' := [(1, .int m_steps), (0, .ref mo)]) hx hb dX7_wipe_4 rfl hl (by decide) rfl (fun ls hl => ?_)
  refine lv_aload_n hx hb dX7_wipe_5 rfl (lv_at hl 1 rfl) ?_
  refine lv_iconst (v := 0) hx hb dX7_wipe_6 (by decide) ?_
  refine va_put (D := D) (ci := 4) (v := .int (0 : Int32)) (ty := .int) (C := RX7) (T := TX7) (N := 12) hx hb hts wi_X7_wipe_X7 tyX7 tyX7_ok nmX7 hown hK hP (kD hnd rfl) hS 0 rfl rfl 6 (by decide) (hts _ wm_X7_wipe_0) (fun _ h9 => h9) rfl (by decide +kernel) rfl rfl (Nat.le_of_ble_eq_true rfl) dX7_wipe_7 (fun H locs hP _ hS => ?_)
  have hP : va_P D vwCl [(mo, .inr (4, [.int m_isWorked, .int m_lines, .ref m_product_a, .ref m_place_a, .ref m_ofX_a, .ref m_ofY_a, .int (0 : Int32), .ref m_step_a, .ref m_rows_a, .ref m_cell_a, .ref m_overs_a, .ref m_sure_a])), (m_product_a, .inl (cI, 16, .inl m_product)), (m_place_a, .inl (cI, 16, .inl m_place)), (m_ofX_a, .inl (cI, 16, .inl m_ofX)), (m_ofY_a, .inl (cI, 16, .inl m_ofY)), (m_step_a, .inl (cI, 5, .inl m_step)), (m_rows_a, .inl (cI, 4, .inl m_rows)), (m_cell_a, .inl (cI, 96, .inl m_cell)), (m_overs_a, .inl (cI, 29, .inl m_overs)), (m_sure_a, .inl (cI, 24, .inl m_sure))] H := hP
  refine lv_iload_n hx hb dX7_wipe_10 rfl (lv_at hl 0 rfl) ?_
  exact hQ m_steps (0 : Int32) H locs 11 ls h hP hS dX7_wipe_11
set_option maxHeartbeats 4000000 in
theorem ctX7_wipe (l : Launch) {D : va_G} {cI cT : ClassId} {mo m_product_a m_place_a m_ofX_a m_ofY_a m_step_a m_rows_a m_cell_a m_overs_a m_sure_a : Nat} {m_isWorked : Int32} {m_lines : Int32} {m_product : Nat → Int32} {m_place : Nat → Int32} {m_ofX : Nat → Int32} {m_ofY : Nat → Int32} {m_steps : Int32} {m_step : Nat → Int32} {m_rows : Nat → Int32} {m_cell : Nat → Int32} {m_overs : Nat → Int32} {m_sure : Nat → Int32} {res : (Int32 × Int32)} (hnd : ([mo, m_product_a, m_place_a, m_ofX_a, m_ofY_a, m_step_a, m_rows_a, m_cell_a, m_overs_a, m_sure_a] : List Nat).Nodup) (hm : mX7_wipe m_steps = some res) : Met l yX7_wipe wsX7_wipe rmX7_wipe (va_Pc [.ref mo] (kW D cI cT [(mo, .inr (4, [.int m_isWorked, .int m_lines, .ref m_product_a, .ref m_place_a, .ref m_ofX_a, .ref m_ofY_a, .int m_steps, .ref m_step_a, .ref m_rows_a, .ref m_cell_a, .ref m_overs_a, .ref m_sure_a])), (m_product_a, .inl (cI, 16, .inl m_product)), (m_place_a, .inl (cI, 16, .inl m_place)), (m_ofX_a, .inl (cI, 16, .inl m_ofX)), (m_ofY_a, .inl (cI, 16, .inl m_ofY)), (m_step_a, .inl (cI, 5, .inl m_step)), (m_rows_a, .inl (cI, 4, .inl m_rows)), (m_cell_a, .inl (cI, 96, .inl m_cell)), (m_overs_a, .inl (cI, 29, .inl m_overs)), (m_sure_a, .inl (cI, 24, .inl m_sure))] none (fun q => q ∈ ([mo, m_product_a, m_place_a, m_ofX_a, m_ofY_a, m_step_a, m_rows_a, m_cell_a, m_overs_a, m_sure_a] : List Nat)))) (kX (some (.int res.1)) D [(mo, .inr (4, [.int m_isWorked, .int m_lines, .ref m_product_a, .ref m_place_a, .ref m_ofX_a, .ref m_ofY_a, .int res.2, .ref m_step_a, .ref m_rows_a, .ref m_cell_a, .ref m_overs_a, .ref m_sure_a])), (m_product_a, .inl (cI, 16, .inl m_product)), (m_place_a, .inl (cI, 16, .inl m_place)), (m_ofX_a, .inl (cI, 16, .inl m_ofX)), (m_ofY_a, .inl (cI, 16, .inl m_ofY)), (m_step_a, .inl (cI, 5, .inl m_step)), (m_rows_a, .inl (cI, 4, .inl m_rows)), (m_cell_a, .inl (cI, 96, .inl m_cell)), (m_overs_a, .inl (cI, 29, .inl m_overs)), (m_sure_a, .inl (cI, 24, .inl m_sure))] (fun q => q ∈ ([mo, m_product_a, m_place_a, m_ofX_a, m_ofY_a, m_step_a, m_rows_a, m_cell_a, m_overs_a, m_sure_a] : List Nat))) 0 0 (fun q => q ∈ ([mo, m_product_a, m_place_a, m_ofX_a, m_ofY_a, m_step_a, m_rows_a, m_cell_a, m_overs_a, m_sure_a] : List Nat)) :=
  km (by decide) rfl (Nat.le_of_ble_eq_true rfl) (fun p e s m below meth c ls C hB hl => bX7_wipe C hB.1 hnd m_isWorked m_lines m_product m_place m_ofX m_ofY m_steps m_step m_rows m_cell m_overs m_sure res (fun v m_steps1 H locs pc ls h hP hS hd => by obtain rfl := Option.some.inj h; exact kx_i C hP hS hd) hm s.heap [] hB.2.1 va_S.rf ls hl)
theorem wm_X7_units_0 : Cond.fieldLink RX7 215 "SixtyTabletModel" "steps" "I" ∈ wsX7_units := by decide +kernel
theorem wm_X7_units_1 : Cond.constantLong RX7 37 (167961599999999) ∈ wsX7_units := by decide +kernel
theorem wm_X7_units_2 : Cond.fieldLink RX7 22 "SixtyTabletModel" "step" "[I" ∈ wsX7_units := by decide +kernel
theorem wm_X7_units_3 : Cond.constantLong RX7 57 (-1000000000000000002) ∈ wsX7_units := by decide +kernel
theorem wm_X7_units_4 : Cond.constantLong RX7 140 (-1000000000000000001) ∈ wsX7_units := by decide +kernel
theorem wi_X7_units_X7 : ∀ w ∈ wsX70, w ∈ wsX7_units := by decide +kernel
theorem kdvX7_units : yX7_units.cls = RX7 ∧ yX7_units.cls ≠ "java/lang/invoke/MethodHandle" ∧ yX7_units.cls ≠ "java/lang/invoke/VarHandle" ∧ (parseMethodDescriptor yX7_units.desc).map (fun d => d.parameters.length) = some 2 := by decide +kernel
abbrev rmX7_units : Room := { frames := 1, cells := 0, slots := 0, locals := 25 }
def mlX7_units_39 (x3 : Int32) (m_step : Nat → Int32) (kE : Int64 → Option Int64) : Nat → Int64 → Int32 → Option Int64
  | 0, _, _ => none
  | n + 1, x4, x6 => (if x3 ≤ x6 then (kE x4) else (if x6 < 0 ∨ 5 ≤ (Int32.toNatClampNeg x6) then none else (if (Int32.toInt64 (m_step (Int32.toNatClampNeg x6))) = 0 then none else (md_let (x4 / (Int32.toInt64 (m_step (Int32.toNatClampNeg x6)))) (fun (x4_8 : Int64) => (md_let (x6 + (1 : Int32)) (fun (x6_9 : Int32) => (mlX7_units_39 x3 m_step kE n x4_8 x6_9))))))))
set_option maxHeartbeats 4000000 in
set_option maxRecDepth 100000 in
theorem lX7_units_39 {p : Program} {l : Launch} {e : Env} {s : State} {m : MethodId} {args : Array Value} {below : List Frame} {meth : Method} {c : Code} {Q : State → Prop} (C : kc p s m args meth c cX7_units 7 RX7 yX7_units.name wsX7_units (some .long)) {D : va_G} {cI cT : ClassId} {mo m_product_a m_place_a m_ofX_a m_ofY_a m_step_a m_rows_a m_cell_a m_overs_a m_sure_a : Nat} (hK : va_K D vwCl (kTy cI cT) s) (x3 : Int32) (m_isWorked : Int32) (m_lines : Int32) (m_product : Nat → Int32) (m_place : Nat → Int32) (m_ofX : Nat → Int32) (m_ofY : Nat → Int32) (m_steps : Int32) (m_step : Nat → Int32) (m_rows : Nat → Int32) (m_cell : Nat → Int32) (m_overs : Nat → Int32) (m_sure : Nat → Int32) (hP : va_P D vwCl [(mo, .inr (4, [.int m_isWorked, .int m_lines, .ref m_product_a, .ref m_place_a, .ref m_ofX_a, .ref m_ofY_a, .int m_steps, .ref m_step_a, .ref m_rows_a, .ref m_cell_a, .ref m_overs_a, .ref m_sure_a])), (m_product_a, .inl (cI, 16, .inl m_product)), (m_place_a, .inl (cI, 16, .inl m_place)), (m_ofX_a, .inl (cI, 16, .inl m_ofX)), (m_ofY_a, .inl (cI, 16, .inl m_ofY)), (m_step_a, .inl (cI, 5, .inl m_step)), (m_rows_a, .inl (cI, 4, .inl m_rows)), (m_cell_a, .inl (cI, 96, .inl m_cell)), (m_overs_a, .inl (cI, 29, .inl m_overs)), (m_sure_a, .inl (cI, 24, .inl m_sure))] s.heap) (res : Int64) (hQ : ∀ (v : Int64) (pc : Nat) (ls : Array Slot), some v = some res → decode cX7_units pc = .ok (.lreturn, 1) → W p l e rmX7_units s m args below meth c s.heap [] 0 0 Q (F0 m pc ls [.long v])) (kE : Int64 → Option Int64) (hE : ∀ (y4 : Int64), kE y4 = some res → ∀ (ls : Array Slot), lv_has ls 7 [(0, .ref mo), (3, .int x3), (4, .long y4)] → W p l e rmX7_units s m args below meth c s.heap [] 0 0 Q (F0 m 64 ls [])) : ∀ (n : Nat), ∀ (x4 : Int64) (x6 : Int32), mlX7_units_39 x3 m_step kE n x4 x6 = some res → ∀ (ls : Array Slot), lv_has ls 7 [(0, .ref mo), (3, .int x3), (4, .long x4), (6, .int x6)] → W p l e rmX7_units s m args below meth c s.heap [] 0 0 Q (F0 m 39 ls []) := by
  have C0 := C
  obtain ⟨hx, hb, hml, hown, hts, hr, hlk, hnm⟩ := C0
  intro n
  induction n with
  | zero => intro _ _ h; exact md_x h
  | succ n ih =>
    intro x4 x6 h ls hl
    rw [mlX7_units_39] at h
    refine lv_iload hx hb dX7_units_39 (lv_at hl 3 rfl) ?_
    refine lv_iload_n hx hb dX7_units_41 rfl (lv_at hl 1 rfl) ?_
    refine lv_icmp_ge (tgt := 64) hx hb dX7_units_42 (by decide) (fun c5 => ?_) (fun c5 => ?_)
    · replace h := md_t c5 h
      exact hE x4 h ls (lv_sub hl [0, 1, 2] rfl)
    replace h := md_f c5 h
    refine lv_lload hx hb dX7_units_45 (lv_at hl 2 rfl) ?_
    refine lv_aload_n hx hb dX7_units_47 rfl (lv_at hl 0 rfl) ?_
    refine va_get (D := D) (ci := 4) (v := .ref m_step_a) (C := RX7) (T := TX7) (N := 12) hx hb hts wi_X7_units_X7 hown hK hP 0 rfl rfl 7 (by decide) (hts _ wm_X7_units_2) (fun _ h9 => h9) rfl dX7_units_48 ?_
    refine lv_iload hx hb dX7_units_51 (lv_at hl 3 rfl) ?_
    obtain ⟨hin6, h⟩ := md_g h
    refine va_iald hx hb hK hP 5 0 rfl rfl hin6 dX7_units_53 ?_
    refine lv_i2l hx hb dX7_units_54 rfl ?_
    obtain ⟨hz7, h⟩ := md_g h
    refine lv_ldiv hx hb dX7_units_55 hz7 ?_
    refine lv_topl (fun x4_8 ex4_8 => ?_)
    replace h := md_le ex4_8 h
    refine lv_lstore (lv' := [(4, .long x4_8), (0, .ref mo), (3, .int x3), (6, .int x6)]) hx hb dX7_units_56 hl (by decide) rfl (fun ls hl => ?_)
    obtain ⟨x6_9, ex6_9⟩ : ∃ y : Int32, y = (x6 + (1 : Int32)) := ⟨_, rfl⟩
    replace h := md_le ex6_9 h
    refine lv_iinc (v := x6_9) (lv' := [(6, .int x6_9), (4, .long x4_8), (0, .ref mo), (3, .int x3)]) hx hb dX7_units_58 hl (k := 3) rfl (by rw [ex6_9]; rfl) (by decide) rfl (fun ls hl => ?_)
    refine lv_goto (tgt := 39) hx hb dX7_units_61 (by decide) ?_
    exact ih x4_8 x6_9 h ls (lv_sub hl [2, 3, 1, 0] rfl)
def mX7_units (m_steps : Int32) (m_step : Nat → Int32) (p1 : Int64) (p2 : Int32) : Option Int64 := (Option.bind (mX7_in (Int32.toInt64 p2) (0 : Int64) (Int32.toInt64 m_steps)) (fun u1 => (if u1 = 0 then (some (-1000000000000000001 : Int64)) else (Option.bind (mX7_in p1 (0 : Int64) (167961599999999 : Int64)) (fun u3 => (if u3 = 0 then (some (-1000000000000000002 : Int64)) else (mlX7_units_39 p2 m_step (fun (y4_64 : Int64) => (if p2 = m_steps then (some y4_64) else (if p2 < 0 ∨ 5 ≤ (Int32.toNatClampNeg p2) then none else (if (Int32.toInt64 (m_step (Int32.toNatClampNeg p2))) = 0 then none else (some (y4_64 - y4_64 / (Int32.toInt64 (m_step (Int32.toNatClampNeg p2))) * (Int32.toInt64 (m_step (Int32.toNatClampNeg p2))))))))) kN p1 (0 : Int32))))))))
set_option maxHeartbeats 4000000 in
set_option maxRecDepth 100000 in
theorem bX7_units {p : Program} {l : Launch} {e : Env} {s : State} {m : MethodId} {args : Array Value} {below : List Frame} {meth : Method} {c : Code} {Q : State → Prop} (C : kc p s m args meth c cX7_units 7 RX7 yX7_units.name wsX7_units (some .long)) {D : va_G} {cI cT : ClassId} {mo m_product_a m_place_a m_ofX_a m_ofY_a m_step_a m_rows_a m_cell_a m_overs_a m_sure_a : Nat} (p1 : Int64) (p2 : Int32) (hK : va_K D vwCl (kTy cI cT) s) (m_isWorked : Int32) (m_lines : Int32) (m_product : Nat → Int32) (m_place : Nat → Int32) (m_ofX : Nat → Int32) (m_ofY : Nat → Int32) (m_steps : Int32) (m_step : Nat → Int32) (m_rows : Nat → Int32) (m_cell : Nat → Int32) (m_overs : Nat → Int32) (m_sure : Nat → Int32) (hP : va_P D vwCl [(mo, .inr (4, [.int m_isWorked, .int m_lines, .ref m_product_a, .ref m_place_a, .ref m_ofX_a, .ref m_ofY_a, .int m_steps, .ref m_step_a, .ref m_rows_a, .ref m_cell_a, .ref m_overs_a, .ref m_sure_a])), (m_product_a, .inl (cI, 16, .inl m_product)), (m_place_a, .inl (cI, 16, .inl m_place)), (m_ofX_a, .inl (cI, 16, .inl m_ofX)), (m_ofY_a, .inl (cI, 16, .inl m_ofY)), (m_step_a, .inl (cI, 5, .inl m_step)), (m_rows_a, .inl (cI, 4, .inl m_rows)), (m_cell_a, .inl (cI, 96, .inl m_cell)), (m_overs_a, .inl (cI, 29, .inl m_overs)), (m_sure_a, .inl (cI, 24, .inl m_sure))] s.heap) (res : Int64) (hQ : ∀ (v : Int64) (pc : Nat) (ls : Array Slot), some v = some res → decode cX7_units pc = .ok (.lreturn, 1) → W p l e rmX7_units s m args below meth c s.heap [] 0 0 Q (F0 m pc ls [.long v])) : mX7_units m_steps m_step p1 p2 = some res → ∀ (ls : Array Slot), lv_has ls 7 [(0, .ref mo), (1, .long p1), (3, .int p2)] → W p l e rmX7_units s m args below meth c s.heap [] 0 0 Q (F0 m 0 ls []) := by
  intro h ls hl
  have C0 := C
  obtain ⟨hx, hb, hml, hown, hts, hr, hlk, hnm⟩ := C0
  rw [mX7_units] at h
  refine lv_iload_n hx hb dX7_units_0 rfl (lv_at hl 2 rfl) ?_
  refine lv_i2l hx hb dX7_units_1 rfl ?_
  refine lv_lconst (v := 0) hx hb dX7_units_2 (by decide) ?_
  refine lv_aload_n hx hb dX7_units_3 rfl (lv_at hl 0 rfl) ?_
  refine va_get (D := D) (ci := 4) (v := .int m_steps) (C := RX7) (T := TX7) (N := 12) hx hb hts wi_X7_units_X7 hown hK hP 0 rfl rfl 6 (by decide) (hts _ wm_X7_units_0) (fun _ h9 => h9) rfl dX7_units_4 ?_
  refine lv_i2l hx hb dX7_units_7 rfl ?_
  obtain ⟨u1, hu1, h⟩ := md_b h
  refine kS C (ctX7_in l  hu1) gX7_units_X7_in rfl kdX7_in ⟨rfl, rfl⟩ ⟨by decide, by decide⟩ kT_blind (fun _ _ _ => trivial) rfl hl [] rfl (Nat.le_of_ble_eq_true rfl) dX7_units_8 ⟨by decide, by decide⟩ ?_
  refine lv_if_ne (tgt := 18) hx hb dX7_units_11 (by decide) (fun c2 => ?_) (fun c2 => ?_)
  · replace h := md_f c2 h
    refine lv_lload_n hx hb dX7_units_18 rfl (lv_at hl 1 rfl) ?_
    refine lv_lconst (v := 0) hx hb dX7_units_19 (by decide) ?_
    refine lv_ldc2 hx hb hown (hts _ wm_X7_units_1) dX7_units_20 ?_
    obtain ⟨u3, hu3, h⟩ := md_b h
    refine kS C (ctX7_in l  hu3) gX7_units_X7_in rfl kdX7_in ⟨rfl, rfl⟩ ⟨by decide, by decide⟩ kT_blind (fun _ _ _ => trivial) rfl hl [] rfl (Nat.le_of_ble_eq_true rfl) dX7_units_23 ⟨by decide, by decide⟩ ?_
    refine lv_if_ne (tgt := 33) hx hb dX7_units_26 (by decide) (fun c4 => ?_) (fun c4 => ?_)
    · replace h := md_f c4 h
      refine lv_lload_n hx hb dX7_units_33 rfl (lv_at hl 1 rfl) ?_
      refine lv_lstore (lv' := [(4, .long p1), (0, .ref mo), (1, .long p1), (3, .int p2)]) hx hb dX7_units_34 hl (by decide) rfl (fun ls hl => ?_)
      refine lv_iconst (v := 0) hx hb dX7_units_36 (by decide) ?_
      refine lv_istore (lv' := [(6, .int (0 : Int32)), (4, .long p1), (0, .ref mo), (1, .long p1), (3, .int p2)]) hx hb dX7_units_37 hl (by decide) rfl (fun ls hl => ?_)
      refine lX7_units_39 (mo := mo) (m_product_a := m_product_a) (m_place_a := m_place_a) (m_ofX_a := m_ofX_a) (m_ofY_a := m_ofY_a) (m_step_a := m_step_a) (m_rows_a := m_rows_a) (m_cell_a := m_cell_a) (m_overs_a := m_overs_a) (m_sure_a := m_sure_a) C hK p2 m_isWorked m_lines m_product m_place m_ofX m_ofY m_steps m_step m_rows m_cell m_overs m_sure hP res hQ _ (fun y4_64 h ls hl => ?_) kN p1 (0 : Int32) h ls (lv_sub hl [2, 4, 1, 0] rfl)
      refine lv_iload_n hx hb dX7_units_64 rfl (lv_at hl 1 rfl) ?_
      refine lv_aload_n hx hb dX7_units_65 rfl (lv_at hl 0 rfl) ?_
      refine va_get (D := D) (ci := 4) (v := .int m_steps) (C := RX7) (T := TX7) (N := 12) hx hb hts wi_X7_units_X7 hown hK hP 0 rfl rfl 6 (by decide) (hts _ wm_X7_units_0) (fun _ h9 => h9) rfl dX7_units_66 ?_
      refine lv_icmp_ne (tgt := 77) hx hb dX7_units_69 (by decide) (fun c10 => ?_) (fun c10 => ?_)
      · replace h := md_f c10 h
        refine lv_lload hx hb dX7_units_77 (lv_at hl 2 rfl) ?_
        refine lv_aload_n hx hb dX7_units_79 rfl (lv_at hl 0 rfl) ?_
        refine va_get (D := D) (ci := 4) (v := .ref m_step_a) (C := RX7) (T := TX7) (N := 12) hx hb hts wi_X7_units_X7 hown hK hP 0 rfl rfl 7 (by decide) (hts _ wm_X7_units_2) (fun _ h9 => h9) rfl dX7_units_80 ?_
        refine lv_iload_n hx hb dX7_units_83 rfl (lv_at hl 1 rfl) ?_
        obtain ⟨hin11, h⟩ := md_g h
        refine va_iald hx hb hK hP 5 0 rfl rfl hin11 dX7_units_84 ?_
        refine lv_i2l hx hb dX7_units_85 rfl ?_
        obtain ⟨hz12, h⟩ := md_g h
        refine lv_lrem hx hb dX7_units_86 hz12 ?_
        exact hQ (y4_64 - y4_64 / (Int32.toInt64 (m_step (Int32.toNatClampNeg p2))) * (Int32.toInt64 (m_step (Int32.toNatClampNeg p2)))) 87 ls h dX7_units_87
      replace h := md_t c10 h
      refine lv_lload hx hb dX7_units_72 (lv_at hl 2 rfl) ?_
      refine lv_goto (tgt := 87) hx hb dX7_units_74 (by decide) ?_
      exact hQ y4_64 87 ls h dX7_units_87
    replace h := md_t c4 h
    refine lv_ldc2 hx hb hown (hts _ wm_X7_units_3) dX7_units_29 ?_
    exact hQ (-1000000000000000002 : Int64) 32 ls h dX7_units_32
  replace h := md_t c2 h
  refine lv_ldc2 hx hb hown (hts _ wm_X7_units_4) dX7_units_14 ?_
  exact hQ (-1000000000000000001 : Int64) 17 ls h dX7_units_17
set_option maxHeartbeats 4000000 in
theorem ctX7_units (l : Launch) {D : va_G} {cI cT : ClassId} {mo m_product_a m_place_a m_ofX_a m_ofY_a m_step_a m_rows_a m_cell_a m_overs_a m_sure_a : Nat} {m_isWorked : Int32} {m_lines : Int32} {m_product : Nat → Int32} {m_place : Nat → Int32} {m_ofX : Nat → Int32} {m_ofY : Nat → Int32} {m_steps : Int32} {m_step : Nat → Int32} {m_rows : Nat → Int32} {m_cell : Nat → Int32} {m_overs : Nat → Int32} {m_sure : Nat → Int32} {p1 : Int64} {p2 : Int32} {res : Int64} (hm : mX7_units m_steps m_step p1 p2 = some res) : Met l yX7_units wsX7_units rmX7_units (va_Pc [.ref mo, .long p1, .int p2] (kW D cI cT [(mo, .inr (4, [.int m_isWorked, .int m_lines, .ref m_product_a, .ref m_place_a, .ref m_ofX_a, .ref m_ofY_a, .int m_steps, .ref m_step_a, .ref m_rows_a, .ref m_cell_a, .ref m_overs_a, .ref m_sure_a])), (m_product_a, .inl (cI, 16, .inl m_product)), (m_place_a, .inl (cI, 16, .inl m_place)), (m_ofX_a, .inl (cI, 16, .inl m_ofX)), (m_ofY_a, .inl (cI, 16, .inl m_ofY)), (m_step_a, .inl (cI, 5, .inl m_step)), (m_rows_a, .inl (cI, 4, .inl m_rows)), (m_cell_a, .inl (cI, 96, .inl m_cell)), (m_overs_a, .inl (cI, 29, .inl m_overs)), (m_sure_a, .inl (cI, 24, .inl m_sure))] none (fun _ => False))) (kR (.long res)) 0 0 (fun _ => False) :=
  km (by decide) rfl (Nat.le_of_ble_eq_true rfl) (fun p e s m below meth c ls C hB hl => bX7_units C p1 p2 hB.1 m_isWorked m_lines m_product m_place m_ofX m_ofY m_steps m_step m_rows m_cell m_overs m_sure hB.2.1 res (fun v pc ls h hd => kr_l C h hd) hm ls hl)
theorem wm_X7_told_0 : Cond.constantLong RX7 99 (2) ∈ wsX7_told := by decide +kernel
theorem wm_X7_told_1 : Cond.constantLong RX7 206 (5) ∈ wsX7_told := by decide +kernel
theorem wm_X7_told_2 : Cond.constantLong RX7 218 (6) ∈ wsX7_told := by decide +kernel
theorem wm_X7_told_3 : Cond.constantLong RX7 220 (9) ∈ wsX7_told := by decide +kernel
theorem wm_X7_told_4 : Cond.fieldLink RX7 215 "SixtyTabletModel" "steps" "I" ∈ wsX7_told := by decide +kernel
theorem wm_X7_told_5 : Cond.fieldLink RX7 126 "SixtyTabletModel" "lines" "I" ∈ wsX7_told := by decide +kernel
theorem wm_X7_told_6 : Cond.fieldLink RX7 25 "SixtyTabletModel" "rows" "[I" ∈ wsX7_told := by decide +kernel
theorem wm_X7_told_7 : Cond.fieldLink RX7 28 "SixtyTabletModel" "cell" "[I" ∈ wsX7_told := by decide +kernel
theorem wi_X7_told_X7 : ∀ w ∈ wsX70, w ∈ wsX7_told := by decide +kernel
theorem kdvX7_told : yX7_told.cls = RX7 ∧ yX7_told.cls ≠ "java/lang/invoke/MethodHandle" ∧ yX7_told.cls ≠ "java/lang/invoke/VarHandle" ∧ (parseMethodDescriptor yX7_told.desc).map (fun d => d.parameters.length) = some 1 := by decide +kernel
abbrev rmX7_told : Room := { frames := 1, cells := 0, slots := 0, locals := 25 }
def mlX7_told_41 (x1 : Int32) (m_rows : Nat → Int32) (m_cell : Nat → Int32) (kE : Int32 → Option Int32) : Nat → Int32 → Int32 → Option Int32
  | 0, _, _ => none
  | n + 1, x2, x3 => (if (x1 - (6 : Int32)) < 0 ∨ 4 ≤ (Int32.toNatClampNeg (x1 - (6 : Int32))) then none else (if ((3 : Int32) * (m_rows (Int32.toNatClampNeg (x1 - (6 : Int32))))) ≤ x3 then (kE x2) else (if (((24 : Int32) * (x1 - (6 : Int32))) + x3) < 0 ∨ 96 ≤ (Int32.toNatClampNeg (((24 : Int32) * (x1 - (6 : Int32))) + x3)) then none else (md_jn (fun (z1_79 : Int32) => (md_let (x2 + z1_79) (fun (x2_10 : Int32) => (md_let (x3 + (1 : Int32)) (fun (x3_11 : Int32) => (mlX7_told_41 x1 m_rows m_cell kE n x2_10 x3_11)))))) (fun kJ79 => (if (m_cell (Int32.toNatClampNeg (((24 : Int32) * (x1 - (6 : Int32))) + x3))) = 0 then (kJ79 (1 : Int32)) else (kJ79 (0 : Int32))))))))
set_option maxHeartbeats 4000000 in
set_option maxRecDepth 100000 in
theorem lX7_told_41 {p : Program} {l : Launch} {e : Env} {s : State} {m : MethodId} {args : Array Value} {below : List Frame} {meth : Method} {c : Code} {Q : State → Prop} (C : kc p s m args meth c cX7_told 4 RX7 yX7_told.name wsX7_told (some .int)) {D : va_G} {cI cT : ClassId} {mo m_product_a m_place_a m_ofX_a m_ofY_a m_step_a m_rows_a m_cell_a m_overs_a m_sure_a : Nat} (hK : va_K D vwCl (kTy cI cT) s) (x1 : Int32) (m_isWorked : Int32) (m_lines : Int32) (m_product : Nat → Int32) (m_place : Nat → Int32) (m_ofX : Nat → Int32) (m_ofY : Nat → Int32) (m_steps : Int32) (m_step : Nat → Int32) (m_rows : Nat → Int32) (m_cell : Nat → Int32) (m_overs : Nat → Int32) (m_sure : Nat → Int32) (hP : va_P D vwCl [(mo, .inr (4, [.int m_isWorked, .int m_lines, .ref m_product_a, .ref m_place_a, .ref m_ofX_a, .ref m_ofY_a, .int m_steps, .ref m_step_a, .ref m_rows_a, .ref m_cell_a, .ref m_overs_a, .ref m_sure_a])), (m_product_a, .inl (cI, 16, .inl m_product)), (m_place_a, .inl (cI, 16, .inl m_place)), (m_ofX_a, .inl (cI, 16, .inl m_ofX)), (m_ofY_a, .inl (cI, 16, .inl m_ofY)), (m_step_a, .inl (cI, 5, .inl m_step)), (m_rows_a, .inl (cI, 4, .inl m_rows)), (m_cell_a, .inl (cI, 96, .inl m_cell)), (m_overs_a, .inl (cI, 29, .inl m_overs)), (m_sure_a, .inl (cI, 24, .inl m_sure))] s.heap) (res : Int32) (hQ : ∀ (v : Int32) (pc : Nat) (ls : Array Slot), some v = some res → decode cX7_told pc = .ok (.ireturn, 1) → W p l e rmX7_told s m args below meth c s.heap [] 0 0 Q (F0 m pc ls [.int v])) (kE : Int32 → Option Int32) (hE : ∀ (y2 : Int32), kE y2 = some res → ∀ (ls : Array Slot), lv_has ls 4 [(2, .int y2)] → W p l e rmX7_told s m args below meth c s.heap [] 0 0 Q (F0 m 87 ls [])) : ∀ (n : Nat), ∀ (x2 : Int32) (x3 : Int32), mlX7_told_41 x1 m_rows m_cell kE n x2 x3 = some res → ∀ (ls : Array Slot), lv_has ls 4 [(0, .ref mo), (1, .int x1), (2, .int x2), (3, .int x3)] → W p l e rmX7_told s m args below meth c s.heap [] 0 0 Q (F0 m 41 ls []) := by
  have C0 := C
  obtain ⟨hx, hb, hml, hown, hts, hr, hlk, hnm⟩ := C0
  intro n
  induction n with
  | zero => intro _ _ h; exact md_x h
  | succ n ih =>
    intro x2 x3 h ls hl
    rw [mlX7_told_41] at h
    refine lv_iload_n hx hb dX7_told_41 rfl (lv_at hl 3 rfl) ?_
    refine lv_iconst (v := 3) hx hb dX7_told_42 (by decide) ?_
    refine lv_aload_n hx hb dX7_told_43 rfl (lv_at hl 0 rfl) ?_
    refine va_get (D := D) (ci := 4) (v := .ref m_rows_a) (C := RX7) (T := TX7) (N := 12) hx hb hts wi_X7_told_X7 hown hK hP 0 rfl rfl 8 (by decide) (hts _ wm_X7_told_6) (fun _ h9 => h9) rfl dX7_told_44 ?_
    refine lv_iload_n hx hb dX7_told_47 rfl (lv_at hl 1 rfl) ?_
    refine lv_bipush (v := 6) hx hb dX7_told_48 (by decide) ?_
    refine lv_isub hx hb dX7_told_50 ?_
    obtain ⟨hin7, h⟩ := md_g h
    refine va_iald hx hb hK hP 6 0 rfl rfl hin7 dX7_told_51 ?_
    refine lv_imul hx hb dX7_told_52 ?_
    refine lv_icmp_ge (tgt := 87) hx hb dX7_told_53 (by decide) (fun c8 => ?_) (fun c8 => ?_)
    · replace h := md_t c8 h
      exact hE x2 h ls (lv_sub hl [2] rfl)
    replace h := md_f c8 h
    refine lv_iload_n hx hb dX7_told_56 rfl (lv_at hl 2 rfl) ?_
    refine lv_aload_n hx hb dX7_told_57 rfl (lv_at hl 0 rfl) ?_
    refine va_get (D := D) (ci := 4) (v := .ref m_cell_a) (C := RX7) (T := TX7) (N := 12) hx hb hts wi_X7_told_X7 hown hK hP 0 rfl rfl 9 (by decide) (hts _ wm_X7_told_7) (fun _ h9 => h9) rfl dX7_told_58 ?_
    refine lv_bipush (v := 24) hx hb dX7_told_61 (by decide) ?_
    refine lv_iload_n hx hb dX7_told_63 rfl (lv_at hl 1 rfl) ?_
    refine lv_bipush (v := 6) hx hb dX7_told_64 (by decide) ?_
    refine lv_isub hx hb dX7_told_66 ?_
    refine lv_imul hx hb dX7_told_67 ?_
    refine lv_iload_n hx hb dX7_told_68 rfl (lv_at hl 3 rfl) ?_
    refine lv_iadd hx hb dX7_told_69 ?_
    obtain ⟨hin9, h⟩ := md_g h
    refine va_iald hx hb hK hP 7 0 rfl rfl hin9 dX7_told_70 ?_
    obtain ⟨kJ79, ekJ79, h⟩ := md_jo h
    have KJ79 : ∀ (z1_79 : Int32), kJ79 z1_79 = some res → ∀ (ls : Array Slot), lv_has ls 4 [(0, .ref mo), (1, .int x1), (3, .int x3)] → W p l e rmX7_told s m args below meth c s.heap [] 0 0 Q (F0 m 79 ls [.int z1_79, .int x2]) := by
      intro z1_79 h ls hl
      rw [ekJ79] at h
      refine lv_iadd hx hb dX7_told_79 ?_
      refine lv_topi (fun x2_10 ex2_10 => ?_)
      replace h := md_le ex2_10 h
      refine lv_istore_n (lv' := [(2, .int x2_10), (0, .ref mo), (1, .int x1), (3, .int x3)]) hx hb dX7_told_80 rfl hl (by decide) rfl (fun ls hl => ?_)
      obtain ⟨x3_11, ex3_11⟩ : ∃ y : Int32, y = (x3 + (1 : Int32)) := ⟨_, rfl⟩
      replace h := md_le ex3_11 h
      refine lv_iinc (v := x3_11) (lv' := [(3, .int x3_11), (2, .int x2_10), (0, .ref mo), (1, .int x1)]) hx hb dX7_told_81 hl (k := 3) rfl (by rw [ex3_11]; rfl) (by decide) rfl (fun ls hl => ?_)
      refine lv_goto (tgt := 41) hx hb dX7_told_84 (by decide) ?_
      exact ih x2_10 x3_11 h ls (lv_sub hl [2, 3, 1, 0] rfl)
    clear ekJ79
    refine lv_if_ne (tgt := 78) hx hb dX7_told_71 (by decide) (fun c12 => ?_) (fun c12 => ?_)
    · replace h := md_f c12 h
      refine lv_iconst (v := 0) hx hb dX7_told_78 (by decide) ?_
      exact KJ79 (0 : Int32) h ls (lv_sub hl [0, 1, 3] rfl)
    replace h := md_t c12 h
    refine lv_iconst (v := 1) hx hb dX7_told_74 (by decide) ?_
    refine lv_goto (tgt := 79) hx hb dX7_told_75 (by decide) ?_
    exact KJ79 (1 : Int32) h ls (lv_sub hl [0, 1, 3] rfl)
def mX7_told (m_lines : Int32) (m_steps : Int32) (m_rows : Nat → Int32) (m_cell : Nat → Int32) (p1 : Int32) : Option Int32 := (Option.bind (mX7_in (Int32.toInt64 p1) (2 : Int64) (5 : Int64)) (fun u1 => (if u1 = 0 then (Option.bind (mX7_in (Int32.toInt64 p1) (6 : Int64) (9 : Int64)) (fun u3 => (if u3 = 0 then (if p1 = 0 then (some m_lines) else (if p1 = (1 : Int32) then (some m_steps) else (some (-2 : Int32)))) else (mlX7_told_41 p1 m_rows m_cell (fun (y2_87 : Int32) => (some y2_87)) kN (0 : Int32) (0 : Int32))))) else (if (p1 - (2 : Int32)) < 0 ∨ 4 ≤ (Int32.toNatClampNeg (p1 - (2 : Int32))) then none else (some (m_rows (Int32.toNatClampNeg (p1 - (2 : Int32)))))))))
set_option maxHeartbeats 4000000 in
set_option maxRecDepth 100000 in
theorem bX7_told {p : Program} {l : Launch} {e : Env} {s : State} {m : MethodId} {args : Array Value} {below : List Frame} {meth : Method} {c : Code} {Q : State → Prop} (C : kc p s m args meth c cX7_told 4 RX7 yX7_told.name wsX7_told (some .int)) {D : va_G} {cI cT : ClassId} {mo m_product_a m_place_a m_ofX_a m_ofY_a m_step_a m_rows_a m_cell_a m_overs_a m_sure_a : Nat} (p1 : Int32) (hK : va_K D vwCl (kTy cI cT) s) (m_isWorked : Int32) (m_lines : Int32) (m_product : Nat → Int32) (m_place : Nat → Int32) (m_ofX : Nat → Int32) (m_ofY : Nat → Int32) (m_steps : Int32) (m_step : Nat → Int32) (m_rows : Nat → Int32) (m_cell : Nat → Int32) (m_overs : Nat → Int32) (m_sure : Nat → Int32) (hP : va_P D vwCl [(mo, .inr (4, [.int m_isWorked, .int m_lines, .ref m_product_a, .ref m_place_a, .ref m_ofX_a, .ref m_ofY_a, .int m_steps, .ref m_step_a, .ref m_rows_a, .ref m_cell_a, .ref m_overs_a, .ref m_sure_a])), (m_product_a, .inl (cI, 16, .inl m_product)), (m_place_a, .inl (cI, 16, .inl m_place)), (m_ofX_a, .inl (cI, 16, .inl m_ofX)), (m_ofY_a, .inl (cI, 16, .inl m_ofY)), (m_step_a, .inl (cI, 5, .inl m_step)), (m_rows_a, .inl (cI, 4, .inl m_rows)), (m_cell_a, .inl (cI, 96, .inl m_cell)), (m_overs_a, .inl (cI, 29, .inl m_overs)), (m_sure_a, .inl (cI, 24, .inl m_sure))] s.heap) (res : Int32) (hQ : ∀ (v : Int32) (pc : Nat) (ls : Array Slot), some v = some res → decode cX7_told pc = .ok (.ireturn, 1) → W p l e rmX7_told s m args below meth c s.heap [] 0 0 Q (F0 m pc ls [.int v])) : mX7_told m_lines m_steps m_rows m_cell p1 = some res → ∀ (ls : Array Slot), lv_has ls 4 [(0, .ref mo), (1, .int p1)] → W p l e rmX7_told s m args below meth c s.heap [] 0 0 Q (F0 m 0 ls []) := by
  intro h ls hl
  have C0 := C
  obtain ⟨hx, hb, hml, hown, hts, hr, hlk, hnm⟩ := C0
  rw [mX7_told] at h
  refine lv_iload_n hx hb dX7_told_0 rfl (lv_at hl 1 rfl) ?_
  refine lv_i2l hx hb dX7_told_1 rfl ?_
  refine lv_ldc2 hx hb hown (hts _ wm_X7_told_0) dX7_told_2 ?_
  refine lv_ldc2 hx hb hown (hts _ wm_X7_told_1) dX7_told_5 ?_
  obtain ⟨u1, hu1, h⟩ := md_b h
  refine kS C (ctX7_in l  hu1) gX7_told_X7_in rfl kdX7_in ⟨rfl, rfl⟩ ⟨by decide, by decide⟩ kT_blind (fun _ _ _ => trivial) rfl hl [] rfl (Nat.le_of_ble_eq_true rfl) dX7_told_8 ⟨by decide, by decide⟩ ?_
  refine lv_if_eq (tgt := 23) hx hb dX7_told_11 (by decide) (fun c2 => ?_) (fun c2 => ?_)
  · replace h := md_t c2 h
    refine lv_iload_n hx hb dX7_told_23 rfl (lv_at hl 1 rfl) ?_
    refine lv_i2l hx hb dX7_told_24 rfl ?_
    refine lv_ldc2 hx hb hown (hts _ wm_X7_told_2) dX7_told_25 ?_
    refine lv_ldc2 hx hb hown (hts _ wm_X7_told_3) dX7_told_28 ?_
    obtain ⟨u3, hu3, h⟩ := md_b h
    refine kS C (ctX7_in l  hu3) gX7_told_X7_in rfl kdX7_in ⟨rfl, rfl⟩ ⟨by decide, by decide⟩ kT_blind (fun _ _ _ => trivial) rfl hl [] rfl (Nat.le_of_ble_eq_true rfl) dX7_told_31 ⟨by decide, by decide⟩ ?_
    refine lv_if_eq (tgt := 89) hx hb dX7_told_34 (by decide) (fun c4 => ?_) (fun c4 => ?_)
    · replace h := md_t c4 h
      refine lv_iload_n hx hb dX7_told_89 rfl (lv_at hl 1 rfl) ?_
      refine lv_if_ne (tgt := 100) hx hb dX7_told_90 (by decide) (fun c5 => ?_) (fun c5 => ?_)
      · replace h := md_f c5 h
        refine lv_iload_n hx hb dX7_told_100 rfl (lv_at hl 1 rfl) ?_
        refine lv_iconst (v := 1) hx hb dX7_told_101 (by decide) ?_
        refine lv_icmp_ne (tgt := 112) hx hb dX7_told_102 (by decide) (fun c6 => ?_) (fun c6 => ?_)
        · replace h := md_f c6 h
          refine lv_bipush (v := -2) hx hb dX7_told_112 (by decide) ?_
          exact hQ (-2 : Int32) 114 ls h dX7_told_114
        replace h := md_t c6 h
        refine lv_aload_n hx hb dX7_told_105 rfl (lv_at hl 0 rfl) ?_
        refine va_get (D := D) (ci := 4) (v := .int m_steps) (C := RX7) (T := TX7) (N := 12) hx hb hts wi_X7_told_X7 hown hK hP 0 rfl rfl 6 (by decide) (hts _ wm_X7_told_4) (fun _ h9 => h9) rfl dX7_told_106 ?_
        refine lv_goto (tgt := 114) hx hb dX7_told_109 (by decide) ?_
        exact hQ m_steps 114 ls h dX7_told_114
      replace h := md_t c5 h
      refine lv_aload_n hx hb dX7_told_93 rfl (lv_at hl 0 rfl) ?_
      refine va_get (D := D) (ci := 4) (v := .int m_lines) (C := RX7) (T := TX7) (N := 12) hx hb hts wi_X7_told_X7 hown hK hP 0 rfl rfl 1 (by decide) (hts _ wm_X7_told_5) (fun _ h9 => h9) rfl dX7_told_94 ?_
      refine lv_goto (tgt := 114) hx hb dX7_told_97 (by decide) ?_
      exact hQ m_lines 114 ls h dX7_told_114
    replace h := md_f c4 h
    refine lv_iconst (v := 0) hx hb dX7_told_37 (by decide) ?_
    refine lv_istore_n (lv' := [(2, .int (0 : Int32)), (0, .ref mo), (1, .int p1)]) hx hb dX7_told_38 rfl hl (by decide) rfl (fun ls hl => ?_)
    refine lv_iconst (v := 0) hx hb dX7_told_39 (by decide) ?_
    refine lv_istore_n (lv' := [(3, .int (0 : Int32)), (2, .int (0 : Int32)), (0, .ref mo), (1, .int p1)]) hx hb dX7_told_40 rfl hl (by decide) rfl (fun ls hl => ?_)
    refine lX7_told_41 (mo := mo) (m_product_a := m_product_a) (m_place_a := m_place_a) (m_ofX_a := m_ofX_a) (m_ofY_a := m_ofY_a) (m_step_a := m_step_a) (m_rows_a := m_rows_a) (m_cell_a := m_cell_a) (m_overs_a := m_overs_a) (m_sure_a := m_sure_a) C hK p1 m_isWorked m_lines m_product m_place m_ofX m_ofY m_steps m_step m_rows m_cell m_overs m_sure hP res hQ _ (fun y2_87 h ls hl => ?_) kN (0 : Int32) (0 : Int32) h ls (lv_sub hl [2, 3, 1, 0] rfl)
    refine lv_iload_n hx hb dX7_told_87 rfl (lv_at hl 0 rfl) ?_
    exact hQ y2_87 88 ls h dX7_told_88
  replace h := md_f c2 h
  refine lv_aload_n hx hb dX7_told_14 rfl (lv_at hl 0 rfl) ?_
  refine va_get (D := D) (ci := 4) (v := .ref m_rows_a) (C := RX7) (T := TX7) (N := 12) hx hb hts wi_X7_told_X7 hown hK hP 0 rfl rfl 8 (by decide) (hts _ wm_X7_told_6) (fun _ h9 => h9) rfl dX7_told_15 ?_
  refine lv_iload_n hx hb dX7_told_18 rfl (lv_at hl 1 rfl) ?_
  refine lv_iconst (v := 2) hx hb dX7_told_19 (by decide) ?_
  refine lv_isub hx hb dX7_told_20 ?_
  obtain ⟨hin13, h⟩ := md_g h
  refine va_iald hx hb hK hP 6 0 rfl rfl hin13 dX7_told_21 ?_
  exact hQ (m_rows (Int32.toNatClampNeg (p1 - (2 : Int32)))) 22 ls h dX7_told_22
set_option maxHeartbeats 4000000 in
theorem ctX7_told (l : Launch) {D : va_G} {cI cT : ClassId} {mo m_product_a m_place_a m_ofX_a m_ofY_a m_step_a m_rows_a m_cell_a m_overs_a m_sure_a : Nat} {m_isWorked : Int32} {m_lines : Int32} {m_product : Nat → Int32} {m_place : Nat → Int32} {m_ofX : Nat → Int32} {m_ofY : Nat → Int32} {m_steps : Int32} {m_step : Nat → Int32} {m_rows : Nat → Int32} {m_cell : Nat → Int32} {m_overs : Nat → Int32} {m_sure : Nat → Int32} {p1 : Int32} {res : Int32} (hm : mX7_told m_lines m_steps m_rows m_cell p1 = some res) : Met l yX7_told wsX7_told rmX7_told (va_Pc [.ref mo, .int p1] (kW D cI cT [(mo, .inr (4, [.int m_isWorked, .int m_lines, .ref m_product_a, .ref m_place_a, .ref m_ofX_a, .ref m_ofY_a, .int m_steps, .ref m_step_a, .ref m_rows_a, .ref m_cell_a, .ref m_overs_a, .ref m_sure_a])), (m_product_a, .inl (cI, 16, .inl m_product)), (m_place_a, .inl (cI, 16, .inl m_place)), (m_ofX_a, .inl (cI, 16, .inl m_ofX)), (m_ofY_a, .inl (cI, 16, .inl m_ofY)), (m_step_a, .inl (cI, 5, .inl m_step)), (m_rows_a, .inl (cI, 4, .inl m_rows)), (m_cell_a, .inl (cI, 96, .inl m_cell)), (m_overs_a, .inl (cI, 29, .inl m_overs)), (m_sure_a, .inl (cI, 24, .inl m_sure))] none (fun _ => False))) (kR (.int res)) 0 0 (fun _ => False) :=
  km (by decide) rfl (Nat.le_of_ble_eq_true rfl) (fun p e s m below meth c ls C hB hl => bX7_told C p1 hB.1 m_isWorked m_lines m_product m_place m_ofX m_ofY m_steps m_step m_rows m_cell m_overs m_sure hB.2.1 res (fun v pc ls h hd => kr_i C h hd) hm ls hl)
