theorem wm_X0_begin_0 : Cond.fieldLink RX0 33 "SixtyTablet$Search" "kind" "I" ∈ wsX0_begin := by decide +kernel
theorem wm_X0_begin_1 : Cond.fieldLink RX0 36 "SixtyTablet$Search" "n" "I" ∈ wsX0_begin := by decide +kernel
theorem wm_X0_begin_2 : Cond.fieldLink RX0 39 "SixtyTablet$Search" "first" "I" ∈ wsX0_begin := by decide +kernel
theorem wm_X0_begin_3 : Cond.fieldLink RX0 28 "SixtyTablet$Search" "rows" "I" ∈ wsX0_begin := by decide +kernel
theorem wm_X0_begin_4 : Cond.fieldLink RX0 24 "SixtyTablet$Search" "heldCount" "I" ∈ wsX0_begin := by decide +kernel
theorem wm_X0_begin_5 : Cond.fieldLink RX0 9 "SixtyTablet$Search" "heldRows" "[I" ∈ wsX0_begin := by decide +kernel
theorem wm_X0_begin_6 : Cond.fieldLink RX0 15 "SixtyTablet$Search" "heldColumns" "[I" ∈ wsX0_begin := by decide +kernel
theorem wm_X0_begin_7 : Cond.fieldLink RX0 18 "SixtyTablet$Search" "heldSixties" "[I" ∈ wsX0_begin := by decide +kernel
theorem wi_X0_begin_X0 : ∀ w ∈ wsX00, w ∈ wsX0_begin := by decide +kernel
theorem kdvX0_begin : yX0_begin.cls = RX0 ∧ yX0_begin.cls ≠ "java/lang/invoke/MethodHandle" ∧ yX0_begin.cls ≠ "java/lang/invoke/VarHandle" ∧ (parseMethodDescriptor yX0_begin.desc).map (fun d => d.parameters.length) = some 1 := by decide +kernel
abbrev rmX0_begin : Room := { frames := 1, cells := 0, slots := 0, locals := 23 }
def mlX0_begin_30 (s_rows : Int32) (t_cells : Nat → Int32) (t_sixties : Nat → Int32) (kE : (Nat → Int32) → (Nat → Int32) → (Nat → Int32) → Int32 → Option ((Nat → Int32) × (Nat → Int32) × (Nat → Int32) × Int32 × Int32 × Int32 × Int32 × Int32)) : Nat → Int32 → (Nat → Int32) → (Nat → Int32) → (Nat → Int32) → Int32 → Option ((Nat → Int32) × (Nat → Int32) × (Nat → Int32) × Int32 × Int32 × Int32 × Int32 × Int32)
  | 0, _, _, _, _, _ => none
  | n + 1, x2, s_heldRows, s_heldColumns, s_heldSixties, s_heldCount => (if (s_rows * (3 : Int32)) ≤ x2 then (kE s_heldRows s_heldColumns s_heldSixties s_heldCount) else (if (24 : Int32) ≤ x2 then (kE s_heldRows s_heldColumns s_heldSixties s_heldCount) else (md_let (x2 / (3 : Int32)) (fun (x3_4 : Int32) => (md_let (x2 - x2 / (3 : Int32) * (3 : Int32)) (fun (x4_5 : Int32) => (Option.bind (mX3_held t_cells x3_4 x4_5) (fun u6 => (md_jn (fun (s_heldRows_128 : Nat → Int32) (s_heldColumns_128 : Nat → Int32) (s_heldSixties_128 : Nat → Int32) (s_heldCount_128 : Int32) => (md_let (x2 + (1 : Int32)) (fun (x2_7 : Int32) => (mlX0_begin_30 s_rows t_cells t_sixties kE n x2_7 s_heldRows_128 s_heldColumns_128 s_heldSixties_128 s_heldCount_128)))) (fun kJ128 => (if u6 = 0 then (kJ128 s_heldRows s_heldColumns s_heldSixties s_heldCount) else (if s_heldCount < 0 then (kJ128 s_heldRows s_heldColumns s_heldSixties s_heldCount) else (if (24 : Int32) ≤ s_heldCount then (kJ128 s_heldRows s_heldColumns s_heldSixties s_heldCount) else (if s_heldCount < 0 ∨ 24 ≤ (Int32.toNatClampNeg s_heldCount) then none else (md_let (upd s_heldRows (Int32.toNatClampNeg s_heldCount) x3_4) (fun (s_heldRows_11 : Nat → Int32) => (if s_heldCount < 0 ∨ 24 ≤ (Int32.toNatClampNeg s_heldCount) then none else (md_let (upd s_heldColumns (Int32.toNatClampNeg s_heldCount) x4_5) (fun (s_heldColumns_12 : Nat → Int32) => (Option.bind (mX3_heldSixty t_sixties x3_4 x4_5) (fun u13 => (if s_heldCount < 0 ∨ 24 ≤ (Int32.toNatClampNeg s_heldCount) then none else (md_let (upd s_heldSixties (Int32.toNatClampNeg s_heldCount) u13) (fun (s_heldSixties_14 : Nat → Int32) => (md_let (s_heldCount + (1 : Int32)) (fun (f_15 : Int32) => (kJ128 s_heldRows_11 s_heldColumns_12 s_heldSixties_14 f_15)))))))))))))))))))))))))))
set_option maxHeartbeats 4000000 in
set_option maxRecDepth 100000 in
theorem lX0_begin_30 {p : Program} {l : Launch} {e : Env} {s : State} {m : MethodId} {args : Array Value} {below : List Frame} {meth : Method} {c : Code} {Q : State → Prop} (C : kc p s m args meth c cX0_begin 5 RX0 yX0_begin.name wsX0_begin none) {D : va_G} {cI cT : ClassId} {so s_heldRows_a s_heldColumns_a s_heldSixties_a s_certain_a to t_cells_a t_sixties_a : Nat} (hK : va_K D vwCl (kTy cI cT) s) (hnd : ([so, s_heldRows_a, s_heldColumns_a, s_heldSixties_a, s_certain_a, to, t_cells_a, t_sixties_a] : List Nat).Nodup) (s_certain : Nat → Int32) (s_rows : Int32) (s_kind : Int32) (s_n : Int32) (s_first : Int32) (t_cells : Nat → Int32) (t_sixties : Nat → Int32) (t_rows : Int32) (res : ((Nat → Int32) × (Nat → Int32) × (Nat → Int32) × Int32 × Int32 × Int32 × Int32 × Int32)) (hQ : ∀ (s_heldRows : Nat → Int32) (s_heldColumns : Nat → Int32) (s_heldSixties : Nat → Int32) (s_heldCount : Int32) (s_rows : Int32) (s_kind : Int32) (s_n : Int32) (s_first : Int32) (H : Heap) (locs : List Loc) (pc : Nat) (ls : Array Slot), some (s_heldRows, s_heldColumns, s_heldSixties, s_heldCount, s_rows, s_kind, s_n, s_first) = some res → va_P D vwCl [(so, .inr (0, [.ref s_heldRows_a, .ref s_heldColumns_a, .ref s_heldSixties_a, .ref s_certain_a, .int s_heldCount, .int s_rows, .int s_kind, .int s_n, .int s_first])), (s_heldRows_a, .inl (cI, 24, .inl s_heldRows)), (s_heldColumns_a, .inl (cI, 24, .inl s_heldColumns)), (s_heldSixties_a, .inl (cI, 24, .inl s_heldSixties)), (s_certain_a, .inl (cI, 24, .inl s_certain)), (to, .inr (1, [.ref t_cells_a, .ref t_sixties_a, .int t_rows])), (t_cells_a, .inl (cI, 24, .inl t_cells)), (t_sixties_a, .inl (cI, 24, .inl t_sixties))] H → va_S (fun q => q ∈ ([so, s_heldRows_a, s_heldColumns_a, s_heldSixties_a, s_certain_a, to, t_cells_a, t_sixties_a] : List Nat)) s.heap H locs → decode cX0_begin pc = .ok (.return_, 1) → W p l e rmX0_begin s m args below meth c H locs 0 0 Q (F0 m pc ls [])) (kE : (Nat → Int32) → (Nat → Int32) → (Nat → Int32) → Int32 → Option ((Nat → Int32) × (Nat → Int32) × (Nat → Int32) × Int32 × Int32 × Int32 × Int32 × Int32)) (hE : ∀ (s_heldRows : Nat → Int32) (s_heldColumns : Nat → Int32) (s_heldSixties : Nat → Int32) (s_heldCount : Int32), kE s_heldRows s_heldColumns s_heldSixties s_heldCount = some res → ∀ (H : Heap) (locs : List Loc), va_P D vwCl [(so, .inr (0, [.ref s_heldRows_a, .ref s_heldColumns_a, .ref s_heldSixties_a, .ref s_certain_a, .int s_heldCount, .int s_rows, .int s_kind, .int s_n, .int s_first])), (s_heldRows_a, .inl (cI, 24, .inl s_heldRows)), (s_heldColumns_a, .inl (cI, 24, .inl s_heldColumns)), (s_heldSixties_a, .inl (cI, 24, .inl s_heldSixties)), (s_certain_a, .inl (cI, 24, .inl s_certain)), (to, .inr (1, [.ref t_cells_a, .ref t_sixties_a, .int t_rows])), (t_cells_a, .inl (cI, 24, .inl t_cells)), (t_sixties_a, .inl (cI, 24, .inl t_sixties))] H → va_S (fun q => q ∈ ([so, s_heldRows_a, s_heldColumns_a, s_heldSixties_a, s_certain_a, to, t_cells_a, t_sixties_a] : List Nat)) s.heap H locs → ∀ (ls : Array Slot), lv_has ls 5 [] → W p l e rmX0_begin s m args below meth c H locs 0 0 Q (F0 m 134 ls [])) : ∀ (n : Nat), ∀ (x2 : Int32) (s_heldRows : Nat → Int32) (s_heldColumns : Nat → Int32) (s_heldSixties : Nat → Int32) (s_heldCount : Int32), mlX0_begin_30 s_rows t_cells t_sixties kE n x2 s_heldRows s_heldColumns s_heldSixties s_heldCount = some res → ∀ (H : Heap) (locs : List Loc), va_P D vwCl [(so, .inr (0, [.ref s_heldRows_a, .ref s_heldColumns_a, .ref s_heldSixties_a, .ref s_certain_a, .int s_heldCount, .int s_rows, .int s_kind, .int s_n, .int s_first])), (s_heldRows_a, .inl (cI, 24, .inl s_heldRows)), (s_heldColumns_a, .inl (cI, 24, .inl s_heldColumns)), (s_heldSixties_a, .inl (cI, 24, .inl s_heldSixties)), (s_certain_a, .inl (cI, 24, .inl s_certain)), (to, .inr (1, [.ref t_cells_a, .ref t_sixties_a, .int t_rows])), (t_cells_a, .inl (cI, 24, .inl t_cells)), (t_sixties_a, .inl (cI, 24, .inl t_sixties))] H → va_S (fun q => q ∈ ([so, s_heldRows_a, s_heldColumns_a, s_heldSixties_a, s_certain_a, to, t_cells_a, t_sixties_a] : List Nat)) s.heap H locs → ∀ (ls : Array Slot), lv_has ls 5 [(0, .ref so), (1, .ref to), (2, .int x2)] → W p l e rmX0_begin s m args below meth c H locs 0 0 Q (F0 m 30 ls []) := by
  have C0 := C
  obtain ⟨hx, hb, hml, hown, hts, hr, hlk, hnm⟩ := C0
  intro n
  induction n with
  | zero => intro _ _ _ _ _ h; exact md_x h
  | succ n ih =>
    intro x2 s_heldRows s_heldColumns s_heldSixties s_heldCount h H locs hP hS ls hl
    rw [mlX0_begin_30] at h
    refine lv_iload_n hx hb dX0_begin_30 rfl (lv_at hl 2 rfl) ?_
    refine lv_aload_n hx hb dX0_begin_31 rfl (lv_at hl 0 rfl) ?_
    refine va_get (D := D) (ci := 0) (v := .int s_rows) (C := RX0) (T := TX0) (N := 9) hx hb hts wi_X0_begin_X0 hown hK hP 0 rfl rfl 5 (by decide) (hts _ wm_X0_begin_3) (fun _ h9 => h9) rfl dX0_begin_32 ?_
    refine lv_iconst (v := 3) hx hb dX0_begin_35 (by decide) ?_
    refine lv_imul hx hb dX0_begin_36 ?_
    refine lv_icmp_ge (tgt := 134) hx hb dX0_begin_37 (by decide) (fun c2 => ?_) (fun c2 => ?_)
    · replace h := md_t c2 h
      exact hE s_heldRows s_heldColumns s_heldSixties s_heldCount h _ _ hP hS ls (lv_sub hl [] rfl)
    replace h := md_f c2 h
    refine lv_iload_n hx hb dX0_begin_40 rfl (lv_at hl 2 rfl) ?_
    refine lv_bipush (v := 24) hx hb dX0_begin_41 (by decide) ?_
    refine lv_icmp_ge (tgt := 134) hx hb dX0_begin_43 (by decide) (fun c3 => ?_) (fun c3 => ?_)
    · replace h := md_t c3 h
      exact hE s_heldRows s_heldColumns s_heldSixties s_heldCount h _ _ hP hS ls (lv_sub hl [] rfl)
    replace h := md_f c3 h
    refine lv_iload_n hx hb dX0_begin_46 rfl (lv_at hl 2 rfl) ?_
    refine lv_iconst (v := 3) hx hb dX0_begin_47 (by decide) ?_
    refine lv_idiv hx hb dX0_begin_48 (by decide) ?_
    refine lv_topi (fun x3_4 ex3_4 => ?_)
    replace h := md_le ex3_4 h
    refine lv_istore_n (lv' := [(3, .int x3_4), (0, .ref so), (1, .ref to), (2, .int x2)]) hx hb dX0_begin_49 rfl hl (by decide) rfl (fun ls hl => ?_)
    refine lv_iload_n hx hb dX0_begin_50 rfl (lv_at hl 3 rfl) ?_
    refine lv_iconst (v := 3) hx hb dX0_begin_51 (by decide) ?_
    refine lv_irem hx hb dX0_begin_52 (by decide) ?_
    refine lv_topi (fun x4_5 ex4_5 => ?_)
    replace h := md_le ex4_5 h
    refine lv_istore (lv' := [(4, .int x4_5), (3, .int x3_4), (0, .ref so), (1, .ref to), (2, .int x2)]) hx hb dX0_begin_53 hl (by decide) rfl (fun ls hl => ?_)
    refine lv_aload_n hx hb dX0_begin_55 rfl (lv_at hl 3 rfl) ?_
    refine lv_iload_n hx hb dX0_begin_56 rfl (lv_at hl 1 rfl) ?_
    refine lv_iload hx hb dX0_begin_57 (lv_at hl 0 rfl) ?_
    obtain ⟨u6, hu6, h⟩ := md_b h
    refine kV C (ctX3_held l  hu6) gX0_begin_X3_held rfl kdvX3_held ⟨rfl, rfl⟩ ⟨by decide, by decide⟩ kW_blind (va_recv hK hP (ci := 1) (q0 := 5) rfl rfl) (kW_use hK (hP.sub (ws' := [(to, .inr (1, [.ref t_cells_a, .ref t_sixties_a, .int t_rows])), (t_cells_a, .inl (cI, 24, .inl t_cells)), (t_sixties_a, .inl (cI, 24, .inl t_sixties))]) [5, 6, 7] rfl) kL_no) rfl hl [] rfl (Nat.le_of_ble_eq_true rfl) dX0_begin_59 ⟨by decide, by decide⟩ ?_
    obtain ⟨kJ128, ekJ128, h⟩ := md_jo h
    have KJ128 : ∀ (s_heldRows_128 : Nat → Int32) (s_heldColumns_128 : Nat → Int32) (s_heldSixties_128 : Nat → Int32) (s_heldCount_128 : Int32), kJ128 s_heldRows_128 s_heldColumns_128 s_heldSixties_128 s_heldCount_128 = some res → ∀ (H : Heap) (locs : List Loc), va_P D vwCl [(so, .inr (0, [.ref s_heldRows_a, .ref s_heldColumns_a, .ref s_heldSixties_a, .ref s_certain_a, .int s_heldCount_128, .int s_rows, .int s_kind, .int s_n, .int s_first])), (s_heldRows_a, .inl (cI, 24, .inl s_heldRows_128)), (s_heldColumns_a, .inl (cI, 24, .inl s_heldColumns_128)), (s_heldSixties_a, .inl (cI, 24, .inl s_heldSixties_128)), (s_certain_a, .inl (cI, 24, .inl s_certain)), (to, .inr (1, [.ref t_cells_a, .ref t_sixties_a, .int t_rows])), (t_cells_a, .inl (cI, 24, .inl t_cells)), (t_sixties_a, .inl (cI, 24, .inl t_sixties))] H → va_S (fun q => q ∈ ([so, s_heldRows_a, s_heldColumns_a, s_heldSixties_a, s_certain_a, to, t_cells_a, t_sixties_a] : List Nat)) s.heap H locs → ∀ (ls : Array Slot), lv_has ls 5 [(0, .ref so), (1, .ref to), (2, .int x2)] → W p l e rmX0_begin s m args below meth c H locs 0 0 Q (F0 m 128 ls []) := by
      intro s_heldRows_128 s_heldColumns_128 s_heldSixties_128 s_heldCount_128 h H locs hP hS ls hl
      rw [ekJ128] at h
      obtain ⟨x2_7, ex2_7⟩ : ∃ y : Int32, y = (x2 + (1 : Int32)) := ⟨_, rfl⟩
      replace h := md_le ex2_7 h
      refine lv_iinc (v := x2_7) (lv' := [(2, .int x2_7), (0, .ref so), (1, .ref to)]) hx hb dX0_begin_128 hl (k := 2) rfl (by rw [ex2_7]; rfl) (by decide) rfl (fun ls hl => ?_)
      refine lv_goto (tgt := 30) hx hb dX0_begin_131 (by decide) ?_
      exact ih x2_7 s_heldRows_128 s_heldColumns_128 s_heldSixties_128 s_heldCount_128 h _ _ hP hS ls (lv_sub hl [1, 2, 0] rfl)
    clear ekJ128
    refine lv_if_eq (tgt := 128) hx hb dX0_begin_62 (by decide) (fun c8 => ?_) (fun c8 => ?_)
    · replace h := md_t c8 h
      exact KJ128 s_heldRows s_heldColumns s_heldSixties s_heldCount h _ _ hP hS ls (lv_sub hl [2, 3, 4] rfl)
    replace h := md_f c8 h
    refine lv_aload_n hx hb dX0_begin_65 rfl (lv_at hl 2 rfl) ?_
    refine va_get (D := D) (ci := 0) (v := .int s_heldCount) (C := RX0) (T := TX0) (N := 9) hx hb hts wi_X0_begin_X0 hown hK hP 0 rfl rfl 4 (by decide) (hts _ wm_X0_begin_4) (fun _ h9 => h9) rfl dX0_begin_66 ?_
    refine lv_if_lt (tgt := 128) hx hb dX0_begin_69 (by decide) (fun c9 => ?_) (fun c9 => ?_)
    · replace h := md_t c9 h
      exact KJ128 s_heldRows s_heldColumns s_heldSixties s_heldCount h _ _ hP hS ls (lv_sub hl [2, 3, 4] rfl)
    replace h := md_f c9 h
    refine lv_aload_n hx hb dX0_begin_72 rfl (lv_at hl 2 rfl) ?_
    refine va_get (D := D) (ci := 0) (v := .int s_heldCount) (C := RX0) (T := TX0) (N := 9) hx hb hts wi_X0_begin_X0 hown hK hP 0 rfl rfl 4 (by decide) (hts _ wm_X0_begin_4) (fun _ h9 => h9) rfl dX0_begin_73 ?_
    refine lv_bipush (v := 24) hx hb dX0_begin_76 (by decide) ?_
    refine lv_icmp_ge (tgt := 128) hx hb dX0_begin_78 (by decide) (fun c10 => ?_) (fun c10 => ?_)
    · replace h := md_t c10 h
      exact KJ128 s_heldRows s_heldColumns s_heldSixties s_heldCount h _ _ hP hS ls (lv_sub hl [2, 3, 4] rfl)
    replace h := md_f c10 h
    refine lv_aload_n hx hb dX0_begin_81 rfl (lv_at hl 2 rfl) ?_
    refine va_get (D := D) (ci := 0) (v := .ref s_heldRows_a) (C := RX0) (T := TX0) (N := 9) hx hb hts wi_X0_begin_X0 hown hK hP 0 rfl rfl 0 (by decide) (hts _ wm_X0_begin_5) (fun _ h9 => h9) rfl dX0_begin_82 ?_
    refine lv_aload_n hx hb dX0_begin_85 rfl (lv_at hl 2 rfl) ?_
    refine va_get (D := D) (ci := 0) (v := .int s_heldCount) (C := RX0) (T := TX0) (N := 9) hx hb hts wi_X0_begin_X0 hown hK hP 0 rfl rfl 4 (by decide) (hts _ wm_X0_begin_4) (fun _ h9 => h9) rfl dX0_begin_86 ?_
    refine lv_iload_n hx hb dX0_begin_89 rfl (lv_at hl 1 rfl) ?_
    obtain ⟨hin11, h⟩ := md_g h
    refine va_iast hx hb hK hP (kD hnd rfl) hS 1 0 rfl rfl hin11 dX0_begin_90 (fun H locs hP _ hS => ?_)
    have hP : va_P D vwCl [(so, .inr (0, [.ref s_heldRows_a, .ref s_heldColumns_a, .ref s_heldSixties_a, .ref s_certain_a, .int s_heldCount, .int s_rows, .int s_kind, .int s_n, .int s_first])), (s_heldRows_a, .inl (cI, 24, .inl (upd s_heldRows (Int32.toNatClampNeg s_heldCount) x3_4))), (s_heldColumns_a, .inl (cI, 24, .inl s_heldColumns)), (s_heldSixties_a, .inl (cI, 24, .inl s_heldSixties)), (s_certain_a, .inl (cI, 24, .inl s_certain)), (to, .inr (1, [.ref t_cells_a, .ref t_sixties_a, .int t_rows])), (t_cells_a, .inl (cI, 24, .inl t_cells)), (t_sixties_a, .inl (cI, 24, .inl t_sixties))] H := hP
    obtain ⟨s_heldRows_11, es_heldRows_11⟩ : ∃ y : Nat → Int32, y = (upd s_heldRows (Int32.toNatClampNeg s_heldCount) x3_4) := ⟨_, rfl⟩
    replace h := md_le es_heldRows_11 h
    rw [← es_heldRows_11] at hP
    refine lv_aload_n hx hb dX0_begin_91 rfl (lv_at hl 2 rfl) ?_
    refine va_get (D := D) (ci := 0) (v := .ref s_heldColumns_a) (C := RX0) (T := TX0) (N := 9) hx hb hts wi_X0_begin_X0 hown hK hP 0 rfl rfl 1 (by decide) (hts _ wm_X0_begin_6) (fun _ h9 => h9) rfl dX0_begin_92 ?_
    refine lv_aload_n hx hb dX0_begin_95 rfl (lv_at hl 2 rfl) ?_
    refine va_get (D := D) (ci := 0) (v := .int s_heldCount) (C := RX0) (T := TX0) (N := 9) hx hb hts wi_X0_begin_X0 hown hK hP 0 rfl rfl 4 (by decide) (hts _ wm_X0_begin_4) (fun _ h9 => h9) rfl dX0_begin_96 ?_
    refine lv_iload hx hb dX0_begin_99 (lv_at hl 0 rfl) ?_
    obtain ⟨hin12, h⟩ := md_g h
    refine va_iast hx hb hK hP (kD hnd rfl) hS 2 0 rfl rfl hin12 dX0_begin_101 (fun H locs hP _ hS => ?_)
    have hP : va_P D vwCl [(so, .inr (0, [.ref s_heldRows_a, .ref s_heldColumns_a, .ref s_heldSixties_a, .ref s_certain_a, .int s_heldCount, .int s_rows, .int s_kind, .int s_n, .int s_first])), (s_heldRows_a, .inl (cI, 24, .inl s_heldRows_11)), (s_heldColumns_a, .inl (cI, 24, .inl (upd s_heldColumns (Int32.toNatClampNeg s_heldCount) x4_5))), (s_heldSixties_a, .inl (cI, 24, .inl s_heldSixties)), (s_certain_a, .inl (cI, 24, .inl s_certain)), (to, .inr (1, [.ref t_cells_a, .ref t_sixties_a, .int t_rows])), (t_cells_a, .inl (cI, 24, .inl t_cells)), (t_sixties_a, .inl (cI, 24, .inl t_sixties))] H := hP
    obtain ⟨s_heldColumns_12, es_heldColumns_12⟩ : ∃ y : Nat → Int32, y = (upd s_heldColumns (Int32.toNatClampNeg s_heldCount) x4_5) := ⟨_, rfl⟩
    replace h := md_le es_heldColumns_12 h
    rw [← es_heldColumns_12] at hP
    refine lv_aload_n hx hb dX0_begin_102 rfl (lv_at hl 2 rfl) ?_
    refine va_get (D := D) (ci := 0) (v := .ref s_heldSixties_a) (C := RX0) (T := TX0) (N := 9) hx hb hts wi_X0_begin_X0 hown hK hP 0 rfl rfl 2 (by decide) (hts _ wm_X0_begin_7) (fun _ h9 => h9) rfl dX0_begin_103 ?_
    refine lv_aload_n hx hb dX0_begin_106 rfl (lv_at hl 2 rfl) ?_
    refine va_get (D := D) (ci := 0) (v := .int s_heldCount) (C := RX0) (T := TX0) (N := 9) hx hb hts wi_X0_begin_X0 hown hK hP 0 rfl rfl 4 (by decide) (hts _ wm_X0_begin_4) (fun _ h9 => h9) rfl dX0_begin_107 ?_
    refine lv_aload_n hx hb dX0_begin_110 rfl (lv_at hl 3 rfl) ?_
    refine lv_iload_n hx hb dX0_begin_111 rfl (lv_at hl 1 rfl) ?_
    refine lv_iload hx hb dX0_begin_112 (lv_at hl 0 rfl) ?_
    obtain ⟨u13, hu13, h⟩ := md_b h
    refine kV C (ctX3_heldSixty l  hu13) gX0_begin_X3_heldSixty rfl kdvX3_heldSixty ⟨rfl, rfl⟩ ⟨by decide, by decide⟩ kW_blind (va_recv hK hP (ci := 1) (q0 := 5) rfl rfl) (kW_use hK (hP.sub (ws' := [(to, .inr (1, [.ref t_cells_a, .ref t_sixties_a, .int t_rows])), (t_cells_a, .inl (cI, 24, .inl t_cells)), (t_sixties_a, .inl (cI, 24, .inl t_sixties))]) [5, 6, 7] rfl) kL_no) rfl hl [.int s_heldCount, .ref s_heldSixties_a] rfl (Nat.le_of_ble_eq_true rfl) dX0_begin_114 ⟨by decide, by decide⟩ ?_
    obtain ⟨hin14, h⟩ := md_g h
    refine va_iast hx hb hK hP (kD hnd rfl) hS 3 0 rfl rfl hin14 dX0_begin_117 (fun H locs hP _ hS => ?_)
    have hP : va_P D vwCl [(so, .inr (0, [.ref s_heldRows_a, .ref s_heldColumns_a, .ref s_heldSixties_a, .ref s_certain_a, .int s_heldCount, .int s_rows, .int s_kind, .int s_n, .int s_first])), (s_heldRows_a, .inl (cI, 24, .inl s_heldRows_11)), (s_heldColumns_a, .inl (cI, 24, .inl s_heldColumns_12)), (s_heldSixties_a, .inl (cI, 24, .inl (upd s_heldSixties (Int32.toNatClampNeg s_heldCount) u13))), (s_certain_a, .inl (cI, 24, .inl s_certain)), (to, .inr (1, [.ref t_cells_a, .ref t_sixties_a, .int t_rows])), (t_cells_a, .inl (cI, 24, .inl t_cells)), (t_sixties_a, .inl (cI, 24, .inl t_sixties))] H := hP
    obtain ⟨s_heldSixties_14, es_heldSixties_14⟩ : ∃ y : Nat → Int32, y = (upd s_heldSixties (Int32.toNatClampNeg s_heldCount) u13) := ⟨_, rfl⟩
    replace h := md_le es_heldSixties_14 h
    rw [← es_heldSixties_14] at hP
    refine lv_aload_n hx hb dX0_begin_118 rfl (lv_at hl 2 rfl) ?_
    refine lv_dup hx hb dX0_begin_119 rfl ?_
    refine va_get (D := D) (ci := 0) (v := .int s_heldCount) (C := RX0) (T := TX0) (N := 9) hx hb hts wi_X0_begin_X0 hown hK hP 0 rfl rfl 4 (by decide) (hts _ wm_X0_begin_4) (fun _ h9 => h9) rfl dX0_begin_120 ?_
    refine lv_iconst (v := 1) hx hb dX0_begin_123 (by decide) ?_
    refine lv_iadd hx hb dX0_begin_124 ?_
    refine lv_topi (fun f_15 ef_15 => ?_)
    replace h := md_le ef_15 h
    refine va_put (D := D) (ci := 0) (v := .int f_15) (ty := .int) (C := RX0) (T := TX0) (N := 9) hx hb hts wi_X0_begin_X0 tyX0 tyX0_ok nmX0 hown hK hP (kD hnd rfl) hS 0 rfl rfl 4 (by decide) (hts _ wm_X0_begin_4) (fun _ h9 => h9) rfl (by decide +kernel) rfl rfl (Nat.le_of_ble_eq_true rfl) dX0_begin_125 (fun H locs hP _ hS => ?_)
    have hP : va_P D vwCl [(so, .inr (0, [.ref s_heldRows_a, .ref s_heldColumns_a, .ref s_heldSixties_a, .ref s_certain_a, .int f_15, .int s_rows, .int s_kind, .int s_n, .int s_first])), (s_heldRows_a, .inl (cI, 24, .inl s_heldRows_11)), (s_heldColumns_a, .inl (cI, 24, .inl s_heldColumns_12)), (s_heldSixties_a, .inl (cI, 24, .inl s_heldSixties_14)), (s_certain_a, .inl (cI, 24, .inl s_certain)), (to, .inr (1, [.ref t_cells_a, .ref t_sixties_a, .int t_rows])), (t_cells_a, .inl (cI, 24, .inl t_cells)), (t_sixties_a, .inl (cI, 24, .inl t_sixties))] H := hP
    exact KJ128 s_heldRows_11 s_heldColumns_12 s_heldSixties_14 f_15 h _ _ hP hS ls (lv_sub hl [2, 3, 4] rfl)
def mX0_begin (s_heldRows : Nat → Int32) (s_heldColumns : Nat → Int32) (s_heldSixties : Nat → Int32) (t_cells : Nat → Int32) (t_sixties : Nat → Int32) (t_rows : Int32) : Option ((Nat → Int32) × (Nat → Int32) × (Nat → Int32) × Int32 × Int32 × Int32 × Int32 × Int32) := (Option.bind (mX3_rowCount t_rows) (fun u1 => (mlX0_begin_30 u1 t_cells t_sixties (fun (s_heldRows_134 : Nat → Int32) (s_heldColumns_134 : Nat → Int32) (s_heldSixties_134 : Nat → Int32) (s_heldCount_134 : Int32) => (some (s_heldRows_134, s_heldColumns_134, s_heldSixties_134, s_heldCount_134, u1, (0 : Int32), (1 : Int32), (-1 : Int32)))) kN (0 : Int32) s_heldRows s_heldColumns s_heldSixties (0 : Int32))))
set_option maxHeartbeats 4000000 in
set_option maxRecDepth 100000 in
theorem bX0_begin {p : Program} {l : Launch} {e : Env} {s : State} {m : MethodId} {args : Array Value} {below : List Frame} {meth : Method} {c : Code} {Q : State → Prop} (C : kc p s m args meth c cX0_begin 5 RX0 yX0_begin.name wsX0_begin none) {D : va_G} {cI cT : ClassId} {so s_heldRows_a s_heldColumns_a s_heldSixties_a s_certain_a to t_cells_a t_sixties_a : Nat} (hK : va_K D vwCl (kTy cI cT) s) (hnd : ([so, s_heldRows_a, s_heldColumns_a, s_heldSixties_a, s_certain_a, to, t_cells_a, t_sixties_a] : List Nat).Nodup) (s_heldRows : Nat → Int32) (s_heldColumns : Nat → Int32) (s_heldSixties : Nat → Int32) (s_certain : Nat → Int32) (s_heldCount : Int32) (s_rows : Int32) (s_kind : Int32) (s_n : Int32) (s_first : Int32) (t_cells : Nat → Int32) (t_sixties : Nat → Int32) (t_rows : Int32) (res : ((Nat → Int32) × (Nat → Int32) × (Nat → Int32) × Int32 × Int32 × Int32 × Int32 × Int32)) (hQ : ∀ (s_heldRows : Nat → Int32) (s_heldColumns : Nat → Int32) (s_heldSixties : Nat → Int32) (s_heldCount : Int32) (s_rows : Int32) (s_kind : Int32) (s_n : Int32) (s_first : Int32) (H : Heap) (locs : List Loc) (pc : Nat) (ls : Array Slot), some (s_heldRows, s_heldColumns, s_heldSixties, s_heldCount, s_rows, s_kind, s_n, s_first) = some res → va_P D vwCl [(so, .inr (0, [.ref s_heldRows_a, .ref s_heldColumns_a, .ref s_heldSixties_a, .ref s_certain_a, .int s_heldCount, .int s_rows, .int s_kind, .int s_n, .int s_first])), (s_heldRows_a, .inl (cI, 24, .inl s_heldRows)), (s_heldColumns_a, .inl (cI, 24, .inl s_heldColumns)), (s_heldSixties_a, .inl (cI, 24, .inl s_heldSixties)), (s_certain_a, .inl (cI, 24, .inl s_certain)), (to, .inr (1, [.ref t_cells_a, .ref t_sixties_a, .int t_rows])), (t_cells_a, .inl (cI, 24, .inl t_cells)), (t_sixties_a, .inl (cI, 24, .inl t_sixties))] H → va_S (fun q => q ∈ ([so, s_heldRows_a, s_heldColumns_a, s_heldSixties_a, s_certain_a, to, t_cells_a, t_sixties_a] : List Nat)) s.heap H locs → decode cX0_begin pc = .ok (.return_, 1) → W p l e rmX0_begin s m args below meth c H locs 0 0 Q (F0 m pc ls [])) : mX0_begin s_heldRows s_heldColumns s_heldSixties t_cells t_sixties t_rows = some res → ∀ (H : Heap) (locs : List Loc), va_P D vwCl [(so, .inr (0, [.ref s_heldRows_a, .ref s_heldColumns_a, .ref s_heldSixties_a, .ref s_certain_a, .int s_heldCount, .int s_rows, .int s_kind, .int s_n, .int s_first])), (s_heldRows_a, .inl (cI, 24, .inl s_heldRows)), (s_heldColumns_a, .inl (cI, 24, .inl s_heldColumns)), (s_heldSixties_a, .inl (cI, 24, .inl s_heldSixties)), (s_certain_a, .inl (cI, 24, .inl s_certain)), (to, .inr (1, [.ref t_cells_a, .ref t_sixties_a, .int t_rows])), (t_cells_a, .inl (cI, 24, .inl t_cells)), (t_sixties_a, .inl (cI, 24, .inl t_sixties))] H → va_S (fun q => q ∈ ([so, s_heldRows_a, s_heldColumns_a, s_heldSixties_a, s_certain_a, to, t_cells_a, t_sixties_a] : List Nat)) s.heap H locs → ∀ (ls : Array Slot), lv_has ls 5 [(0, .ref so), (1, .ref to)] → W p l e rmX0_begin s m args below meth c H locs 0 0 Q (F0 m 0 ls []) := by
  intro h H locs hP hS ls hl
  have C0 := C
  obtain ⟨hx, hb, hml, hown, hts, hr, hlk, hnm⟩ := C0
  rw [mX0_begin] at h
  refine lv_aload_n hx hb dX0_begin_0 rfl (lv_at hl 0 rfl) ?_
  refine lv_iconst (v := 0) hx hb dX0_begin_1 (by decide) ?_
  refine va_put (D := D) (ci := 0) (v := .int (0 : Int32)) (ty := .int) (C := RX0) (T := TX0) (N := 9) hx hb hts wi_X0_begin_X0 tyX0 tyX0_ok nmX0 hown hK hP (kD hnd rfl) hS 0 rfl rfl 6 (by decide) (hts _ wm_X0_begin_0) (fun _ h9 => h9) rfl (by decide +kernel) rfl rfl (Nat.le_of_ble_eq_true rfl) dX0_begin_2 (fun H locs hP _ hS => ?_)
  have hP : va_P D vwCl [(so, .inr (0, [.ref s_heldRows_a, .ref s_heldColumns_a, .ref s_heldSixties_a, .ref s_certain_a, .int s_heldCount, .int s_rows, .int (0 : Int32), .int s_n, .int s_first])), (s_heldRows_a, .inl (cI, 24, .inl s_heldRows)), (s_heldColumns_a, .inl (cI, 24, .inl s_heldColumns)), (s_heldSixties_a, .inl (cI, 24, .inl s_heldSixties)), (s_certain_a, .inl (cI, 24, .inl s_certain)), (to, .inr (1, [.ref t_cells_a, .ref t_sixties_a, .int t_rows])), (t_cells_a, .inl (cI, 24, .inl t_cells)), (t_sixties_a, .inl (cI, 24, .inl t_sixties))] H := hP
  refine lv_aload_n hx hb dX0_begin_5 rfl (lv_at hl 0 rfl) ?_
  refine lv_iconst (v := 1) hx hb dX0_begin_6 (by decide) ?_
  refine va_put (D := D) (ci := 0) (v := .int (1 : Int32)) (ty := .int) (C := RX0) (T := TX0) (N := 9) hx hb hts wi_X0_begin_X0 tyX0 tyX0_ok nmX0 hown hK hP (kD hnd rfl) hS 0 rfl rfl 7 (by decide) (hts _ wm_X0_begin_1) (fun _ h9 => h9) rfl (by decide +kernel) rfl rfl (Nat.le_of_ble_eq_true rfl) dX0_begin_7 (fun H locs hP _ hS => ?_)
  have hP : va_P D vwCl [(so, .inr (0, [.ref s_heldRows_a, .ref s_heldColumns_a, .ref s_heldSixties_a, .ref s_certain_a, .int s_heldCount, .int s_rows, .int (0 : Int32), .int (1 : Int32), .int s_first])), (s_heldRows_a, .inl (cI, 24, .inl s_heldRows)), (s_heldColumns_a, .inl (cI, 24, .inl s_heldColumns)), (s_heldSixties_a, .inl (cI, 24, .inl s_heldSixties)), (s_certain_a, .inl (cI, 24, .inl s_certain)), (to, .inr (1, [.ref t_cells_a, .ref t_sixties_a, .int t_rows])), (t_cells_a, .inl (cI, 24, .inl t_cells)), (t_sixties_a, .inl (cI, 24, .inl t_sixties))] H := hP
  refine lv_aload_n hx hb dX0_begin_10 rfl (lv_at hl 0 rfl) ?_
  refine lv_iconst (v := -1) hx hb dX0_begin_11 (by decide) ?_
  refine va_put (D := D) (ci := 0) (v := .int (-1 : Int32)) (ty := .int) (C := RX0) (T := TX0) (N := 9) hx hb hts wi_X0_begin_X0 tyX0 tyX0_ok nmX0 hown hK hP (kD hnd rfl) hS 0 rfl rfl 8 (by decide) (hts _ wm_X0_begin_2) (fun _ h9 => h9) rfl (by decide +kernel) rfl rfl (Nat.le_of_ble_eq_true rfl) dX0_begin_12 (fun H locs hP _ hS => ?_)
  have hP : va_P D vwCl [(so, .inr (0, [.ref s_heldRows_a, .ref s_heldColumns_a, .ref s_heldSixties_a, .ref s_certain_a, .int s_heldCount, .int s_rows, .int (0 : Int32), .int (1 : Int32), .int (-1 : Int32)])), (s_heldRows_a, .inl (cI, 24, .inl s_heldRows)), (s_heldColumns_a, .inl (cI, 24, .inl s_heldColumns)), (s_heldSixties_a, .inl (cI, 24, .inl s_heldSixties)), (s_certain_a, .inl (cI, 24, .inl s_certain)), (to, .inr (1, [.ref t_cells_a, .ref t_sixties_a, .int t_rows])), (t_cells_a, .inl (cI, 24, .inl t_cells)), (t_sixties_a, .inl (cI, 24, .inl t_sixties))] H := hP
  refine lv_aload_n hx hb dX0_begin_15 rfl (lv_at hl 0 rfl) ?_
  refine lv_aload_n hx hb dX0_begin_16 rfl (lv_at hl 1 rfl) ?_
  obtain ⟨u1, hu1, h⟩ := md_b h
  refine kV C (ctX3_rowCount l  hu1) gX0_begin_X3_rowCount rfl kdvX3_rowCount ⟨rfl, rfl⟩ ⟨by decide, by decide⟩ kW_blind (va_recv hK hP (ci := 1) (q0 := 5) rfl rfl) (kW_use hK (hP.sub (ws' := [(to, .inr (1, [.ref t_cells_a, .ref t_sixties_a, .int t_rows])), (t_cells_a, .inl (cI, 24, .inl t_cells)), (t_sixties_a, .inl (cI, 24, .inl t_sixties))]) [5, 6, 7] rfl) kL_no) rfl hl [.ref so] rfl (Nat.le_of_ble_eq_true rfl) dX0_begin_17 ⟨by decide, by decide⟩ ?_
  refine va_put (D := D) (ci := 0) (v := .int u1) (ty := .int) (C := RX0) (T := TX0) (N := 9) hx hb hts wi_X0_begin_X0 tyX0 tyX0_ok nmX0 hown hK hP (kD hnd rfl) hS 0 rfl rfl 5 (by decide) (hts _ wm_X0_begin_3) (fun _ h9 => h9) rfl (by decide +kernel) rfl rfl (Nat.le_of_ble_eq_true rfl) dX0_begin_20 (fun H locs hP _ hS => ?_)
  have hP : va_P D vwCl [(so, .inr (0, [.ref s_heldRows_a, .ref s_heldColumns_a, .ref s_heldSixties_a, .ref s_certain_a, .int s_heldCount, .int u1, .int (0 : Int32), .int (1 : Int32), .int (-1 : Int32)])), (s_heldRows_a, .inl (cI, 24, .inl s_heldRows)), (s_heldColumns_a, .inl (cI, 24, .inl s_heldColumns)), (s_heldSixties_a, .inl (cI, 24, .inl s_heldSixties)), (s_certain_a, .inl (cI, 24, .inl s_certain)), (to, .inr (1, [.ref t_cells_a, .ref t_sixties_a, .int t_rows])), (t_cells_a, .inl (cI, 24, .inl t_cells)), (t_sixties_a, .inl (cI, 24, .inl t_sixties))] H := hP
  refine lv_aload_n hx hb dX0_begin_23 rfl (lv_at hl 0 rfl) ?_
  refine lv_iconst (v := 0) hx hb dX0_begin_24 (by decide) ?_
  refine va_put (D := D) (ci := 0) (v := .int (0 : Int32)) (ty := .int) (C := RX0) (T := TX0) (N := 9) hx hb hts wi_X0_begin_X0 tyX0 tyX0_ok nmX0 hown hK hP (kD hnd rfl) hS 0 rfl rfl 4 (by decide) (hts _ wm_X0_begin_4) (fun _ h9 => h9) rfl (by decide +kernel) rfl rfl (Nat.le_of_ble_eq_true rfl) dX0_begin_25 (fun H locs hP _ hS => ?_)
  have hP : va_P D vwCl [(so, .inr (0, [.ref s_heldRows_a, .ref s_heldColumns_a, .ref s_heldSixties_a, .ref s_certain_a, .int (0 : Int32), .int u1, .int (0 : Int32), .int (1 : Int32), .int (-1 : Int32)])), (s_heldRows_a, .inl (cI, 24, .inl s_heldRows)), (s_heldColumns_a, .inl (cI, 24, .inl s_heldColumns)), (s_heldSixties_a, .inl (cI, 24, .inl s_heldSixties)), (s_certain_a, .inl (cI, 24, .inl s_certain)), (to, .inr (1, [.ref t_cells_a, .ref t_sixties_a, .int t_rows])), (t_cells_a, .inl (cI, 24, .inl t_cells)), (t_sixties_a, .inl (cI, 24, .inl t_sixties))] H := hP
  refine lv_iconst (v := 0) hx hb dX0_begin_28 (by decide) ?_
  refine lv_istore_n (lv' := [(2, .int (0 : Int32)), (0, .ref so), (1, .ref to)]) hx hb dX0_begin_29 rfl hl (by decide) rfl (fun ls hl => ?_)
  refine lX0_begin_30 (so := so) (s_heldRows_a := s_heldRows_a) (s_heldColumns_a := s_heldColumns_a) (s_heldSixties_a := s_heldSixties_a) (s_certain_a := s_certain_a) (to := to) (t_cells_a := t_cells_a) (t_sixties_a := t_sixties_a) C hK hnd s_certain u1 (0 : Int32) (1 : Int32) (-1 : Int32) t_cells t_sixties t_rows res hQ _ (fun s_heldRows_134 s_heldColumns_134 s_heldSixties_134 s_heldCount_134 h H locs hP hS ls hl => ?_) kN (0 : Int32) s_heldRows s_heldColumns s_heldSixties (0 : Int32) h _ _ hP hS ls (lv_sub hl [1, 2, 0] rfl)
  exact hQ s_heldRows_134 s_heldColumns_134 s_heldSixties_134 s_heldCount_134 u1 (0 : Int32) (1 : Int32) (-1 : Int32) H locs 134 ls h hP hS dX0_begin_134
set_option maxHeartbeats 4000000 in
theorem ctX0_begin (l : Launch) {D : va_G} {cI cT : ClassId} {so s_heldRows_a s_heldColumns_a s_heldSixties_a s_certain_a to t_cells_a t_sixties_a : Nat} {s_heldRows : Nat → Int32} {s_heldColumns : Nat → Int32} {s_heldSixties : Nat → Int32} {s_certain : Nat → Int32} {s_heldCount : Int32} {s_rows : Int32} {s_kind : Int32} {s_n : Int32} {s_first : Int32} {t_cells : Nat → Int32} {t_sixties : Nat → Int32} {t_rows : Int32} {res : ((Nat → Int32) × (Nat → Int32) × (Nat → Int32) × Int32 × Int32 × Int32 × Int32 × Int32)} (hnd : ([so, s_heldRows_a, s_heldColumns_a, s_heldSixties_a, s_certain_a, to, t_cells_a, t_sixties_a] : List Nat).Nodup) (hm : mX0_begin s_heldRows s_heldColumns s_heldSixties t_cells t_sixties t_rows = some res) : Met l yX0_begin wsX0_begin rmX0_begin (va_Pc [.ref so, .ref to] (kW D cI cT [(so, .inr (0, [.ref s_heldRows_a, .ref s_heldColumns_a, .ref s_heldSixties_a, .ref s_certain_a, .int s_heldCount, .int s_rows, .int s_kind, .int s_n, .int s_first])), (s_heldRows_a, .inl (cI, 24, .inl s_heldRows)), (s_heldColumns_a, .inl (cI, 24, .inl s_heldColumns)), (s_heldSixties_a, .inl (cI, 24, .inl s_heldSixties)), (s_certain_a, .inl (cI, 24, .inl s_certain)), (to, .inr (1, [.ref t_cells_a, .ref t_sixties_a, .int t_rows])), (t_cells_a, .inl (cI, 24, .inl t_cells)), (t_sixties_a, .inl (cI, 24, .inl t_sixties))] none (fun q => q ∈ ([so, s_heldRows_a, s_heldColumns_a, s_heldSixties_a, s_certain_a, to, t_cells_a, t_sixties_a] : List Nat)))) (kX none D [(so, .inr (0, [.ref s_heldRows_a, .ref s_heldColumns_a, .ref s_heldSixties_a, .ref s_certain_a, .int res.2.2.2.1, .int res.2.2.2.2.1, .int res.2.2.2.2.2.1, .int res.2.2.2.2.2.2.1, .int res.2.2.2.2.2.2.2])), (s_heldRows_a, .inl (cI, 24, .inl res.1)), (s_heldColumns_a, .inl (cI, 24, .inl res.2.1)), (s_heldSixties_a, .inl (cI, 24, .inl res.2.2.1)), (s_certain_a, .inl (cI, 24, .inl s_certain)), (to, .inr (1, [.ref t_cells_a, .ref t_sixties_a, .int t_rows])), (t_cells_a, .inl (cI, 24, .inl t_cells)), (t_sixties_a, .inl (cI, 24, .inl t_sixties))] (fun q => q ∈ ([so, s_heldRows_a, s_heldColumns_a, s_heldSixties_a, s_certain_a, to, t_cells_a, t_sixties_a] : List Nat))) 0 0 (fun q => q ∈ ([so, s_heldRows_a, s_heldColumns_a, s_heldSixties_a, s_certain_a, to, t_cells_a, t_sixties_a] : List Nat)) :=
  km (by decide) rfl (Nat.le_of_ble_eq_true rfl) (fun p e s m below meth c ls C hB hl => bX0_begin C hB.1 hnd s_heldRows s_heldColumns s_heldSixties s_certain s_heldCount s_rows s_kind s_n s_first t_cells t_sixties t_rows res (fun s_heldRows1 s_heldColumns1 s_heldSixties1 s_heldCount1 s_rows1 s_kind1 s_n1 s_first1 H locs pc ls h hP hS hd => by obtain rfl := Option.some.inj h; exact kx_v C hP hS hd) hm s.heap [] hB.2.1 va_S.rf ls hl)
theorem wm_X0_nextPlace_0 : Cond.fieldLink RX0 39 "SixtyTablet$Search" "first" "I" ∈ wsX0_nextPlace := by decide +kernel
theorem wm_X0_nextPlace_1 : Cond.fieldLink RX0 28 "SixtyTablet$Search" "rows" "I" ∈ wsX0_nextPlace := by decide +kernel
theorem wm_X0_nextPlace_2 : Cond.fieldLink RX0 33 "SixtyTablet$Search" "kind" "I" ∈ wsX0_nextPlace := by decide +kernel
theorem wm_X0_nextPlace_3 : Cond.fieldLink RX0 36 "SixtyTablet$Search" "n" "I" ∈ wsX0_nextPlace := by decide +kernel
theorem wi_X0_nextPlace_X0 : ∀ w ∈ wsX00, w ∈ wsX0_nextPlace := by decide +kernel
theorem kdvX0_nextPlace : yX0_nextPlace.cls = RX0 ∧ yX0_nextPlace.cls ≠ "java/lang/invoke/MethodHandle" ∧ yX0_nextPlace.cls ≠ "java/lang/invoke/VarHandle" ∧ (parseMethodDescriptor yX0_nextPlace.desc).map (fun d => d.parameters.length) = some 0 := by decide +kernel
abbrev rmX0_nextPlace : Room := { frames := 2, cells := 0, slots := 0, locals := 39 }
def mX0_nextPlace (s_rows : Int32) (s_kind : Int32) (s_n : Int32) (s_first : Int32) : Option (Int32 × Int32 × Int32 × Int32) := (md_let (s_first + (1 : Int32)) (fun (f_1 : Int32) => (Option.bind (mX2_rowsOf s_kind) (fun u2 => (if u2 < (f_1 + s_rows) then (md_jn (fun (u_64 : Unit) => (md_let (s_kind + (1 : Int32)) (fun (f_4 : Int32) => (if (4 : Int32) ≤ f_4 then (some ((0 : Int32), f_4, (0 : Int32), (0 : Int32))) else (some ((1 : Int32), f_4, (0 : Int32), (0 : Int32))))))) (fun kJ64 => (if s_kind = 0 then (if (59 : Int32) ≤ s_n then (kJ64 ()) else (md_let (s_n + (1 : Int32)) (fun (f_8 : Int32) => (some ((1 : Int32), s_kind, f_8, (0 : Int32)))))) else (kJ64 ())))) else (some ((1 : Int32), s_kind, s_n, f_1)))))))
set_option maxHeartbeats 4000000 in
set_option maxRecDepth 100000 in
theorem bX0_nextPlace {p : Program} {l : Launch} {e : Env} {s : State} {m : MethodId} {args : Array Value} {below : List Frame} {meth : Method} {c : Code} {Q : State → Prop} (C : kc p s m args meth c cX0_nextPlace 1 RX0 yX0_nextPlace.name wsX0_nextPlace (some .boolean)) {D : va_G} {cI cT : ClassId} {so s_heldRows_a s_heldColumns_a s_heldSixties_a s_certain_a : Nat} {aL : Nat × Nat} (hK : va_K D vwCl (kTy cI cT) s) (hLz : kLz aL (fun q => q ∈ ([so, s_heldRows_a, s_heldColumns_a, s_heldSixties_a, s_certain_a] : List Nat)) s s.heap) (hnd : ([so, s_heldRows_a, s_heldColumns_a, s_heldSixties_a, s_certain_a] : List Nat).Nodup) (s_heldRows : Nat → Int32) (s_heldColumns : Nat → Int32) (s_heldSixties : Nat → Int32) (s_certain : Nat → Int32) (s_heldCount : Int32) (s_rows : Int32) (s_kind : Int32) (s_n : Int32) (s_first : Int32) (res : (Int32 × Int32 × Int32 × Int32)) (hQ : ∀ (v : Int32) (s_kind : Int32) (s_n : Int32) (s_first : Int32) (H : Heap) (locs : List Loc) (pc : Nat) (ls : Array Slot), v = 0 ∨ v = 1 → some (v, s_kind, s_n, s_first) = some res → va_P D vwCl [(so, .inr (0, [.ref s_heldRows_a, .ref s_heldColumns_a, .ref s_heldSixties_a, .ref s_certain_a, .int s_heldCount, .int s_rows, .int s_kind, .int s_n, .int s_first])), (s_heldRows_a, .inl (cI, 24, .inl s_heldRows)), (s_heldColumns_a, .inl (cI, 24, .inl s_heldColumns)), (s_heldSixties_a, .inl (cI, 24, .inl s_heldSixties)), (s_certain_a, .inl (cI, 24, .inl s_certain))] H → va_S (fun q => q ∈ ([so, s_heldRows_a, s_heldColumns_a, s_heldSixties_a, s_certain_a] : List Nat)) s.heap H locs → decode cX0_nextPlace pc = .ok (.ireturn, 1) → W p l e rmX0_nextPlace s m args below meth c H locs 0 0 Q (F0 m pc ls [.int v])) : mX0_nextPlace s_rows s_kind s_n s_first = some res → ∀ (H : Heap) (locs : List Loc), va_P D vwCl [(so, .inr (0, [.ref s_heldRows_a, .ref s_heldColumns_a, .ref s_heldSixties_a, .ref s_certain_a, .int s_heldCount, .int s_rows, .int s_kind, .int s_n, .int s_first])), (s_heldRows_a, .inl (cI, 24, .inl s_heldRows)), (s_heldColumns_a, .inl (cI, 24, .inl s_heldColumns)), (s_heldSixties_a, .inl (cI, 24, .inl s_heldSixties)), (s_certain_a, .inl (cI, 24, .inl s_certain))] H → va_S (fun q => q ∈ ([so, s_heldRows_a, s_heldColumns_a, s_heldSixties_a, s_certain_a] : List Nat)) s.heap H locs → ∀ (ls : Array Slot), lv_has ls 1 [(0, .ref so)] → W p l e rmX0_nextPlace s m args below meth c H locs 0 0 Q (F0 m 0 ls []) := by
  intro h H locs hP hS ls hl
  have C0 := C
  obtain ⟨hx, hb, hml, hown, hts, hr, hlk, hnm⟩ := C0
  rw [mX0_nextPlace] at h
  refine lv_aload_n hx hb dX0_nextPlace_0 rfl (lv_at hl 0 rfl) ?_
  refine lv_dup hx hb dX0_nextPlace_1 rfl ?_
  refine va_get (D := D) (ci := 0) (v := .int s_first) (C := RX0) (T := TX0) (N := 9) hx hb hts wi_X0_nextPlace_X0 hown hK hP 0 rfl rfl 8 (by decide) (hts _ wm_X0_nextPlace_0) (fun _ h9 => h9) rfl dX0_nextPlace_2 ?_
  refine lv_iconst (v := 1) hx hb dX0_nextPlace_5 (by decide) ?_
  refine lv_iadd hx hb dX0_nextPlace_6 ?_
  refine lv_topi (fun f_1 ef_1 => ?_)
  replace h := md_le ef_1 h
  refine va_put (D := D) (ci := 0) (v := .int f_1) (ty := .int) (C := RX0) (T := TX0) (N := 9) hx hb hts wi_X0_nextPlace_X0 tyX0 tyX0_ok nmX0 hown hK hP (kD hnd rfl) hS 0 rfl rfl 8 (by decide) (hts _ wm_X0_nextPlace_0) (fun _ h9 => h9) rfl (by decide +kernel) rfl rfl (Nat.le_of_ble_eq_true rfl) dX0_nextPlace_7 (fun H locs hP _ hS => ?_)
  have hP : va_P D vwCl [(so, .inr (0, [.ref s_heldRows_a, .ref s_heldColumns_a, .ref s_heldSixties_a, .ref s_certain_a, .int s_heldCount, .int s_rows, .int s_kind, .int s_n, .int f_1])), (s_heldRows_a, .inl (cI, 24, .inl s_heldRows)), (s_heldColumns_a, .inl (cI, 24, .inl s_heldColumns)), (s_heldSixties_a, .inl (cI, 24, .inl s_heldSixties)), (s_certain_a, .inl (cI, 24, .inl s_certain))] H := hP
  refine lv_aload_n hx hb dX0_nextPlace_10 rfl (lv_at hl 0 rfl) ?_
  refine va_get (D := D) (ci := 0) (v := .int f_1) (C := RX0) (T := TX0) (N := 9) hx hb hts wi_X0_nextPlace_X0 hown hK hP 0 rfl rfl 8 (by decide) (hts _ wm_X0_nextPlace_0) (fun _ h9 => h9) rfl dX0_nextPlace_11 ?_
  refine lv_aload_n hx hb dX0_nextPlace_14 rfl (lv_at hl 0 rfl) ?_
  refine va_get (D := D) (ci := 0) (v := .int s_rows) (C := RX0) (T := TX0) (N := 9) hx hb hts wi_X0_nextPlace_X0 hown hK hP 0 rfl rfl 5 (by decide) (hts _ wm_X0_nextPlace_1) (fun _ h9 => h9) rfl dX0_nextPlace_15 ?_
  refine lv_iadd hx hb dX0_nextPlace_18 ?_
  refine lv_aload_n hx hb dX0_nextPlace_19 rfl (lv_at hl 0 rfl) ?_
  refine va_get (D := D) (ci := 0) (v := .int s_kind) (C := RX0) (T := TX0) (N := 9) hx hb hts wi_X0_nextPlace_X0 hown hK hP 0 rfl rfl 6 (by decide) (hts _ wm_X0_nextPlace_2) (fun _ h9 => h9) rfl dX0_nextPlace_20 ?_
  obtain ⟨u2, hu2, h⟩ := md_b h
  refine kS C (ctX2_rowsOf l  hu2) gX0_nextPlace_X2_rowsOf rfl kdX2_rowsOf ⟨rfl, rfl⟩ ⟨by decide, by decide⟩ kW_blind (kW_use hK va_P0 (kL_at hLz hS (fun _ q => q.elim))) rfl hl [.int (f_1 + s_rows)] rfl (Nat.le_of_ble_eq_true rfl) dX0_nextPlace_23 ⟨by decide, by decide⟩ ?_
  refine lv_icmp_gt (tgt := 31) hx hb dX0_nextPlace_26 (by decide) (fun c3 => ?_) (fun c3 => ?_)
  · replace h := md_t c3 h
    refine lv_aload_n hx hb dX0_nextPlace_31 rfl (lv_at hl 0 rfl) ?_
    refine lv_iconst (v := 0) hx hb dX0_nextPlace_32 (by decide) ?_
    refine va_put (D := D) (ci := 0) (v := .int (0 : Int32)) (ty := .int) (C := RX0) (T := TX0) (N := 9) hx hb hts wi_X0_nextPlace_X0 tyX0 tyX0_ok nmX0 hown hK hP (kD hnd rfl) hS 0 rfl rfl 8 (by decide) (hts _ wm_X0_nextPlace_0) (fun _ h9 => h9) rfl (by decide +kernel) rfl rfl (Nat.le_of_ble_eq_true rfl) dX0_nextPlace_33 (fun H locs hP _ hS => ?_)
    have hP : va_P D vwCl [(so, .inr (0, [.ref s_heldRows_a, .ref s_heldColumns_a, .ref s_heldSixties_a, .ref s_certain_a, .int s_heldCount, .int s_rows, .int s_kind, .int s_n, .int (0 : Int32)])), (s_heldRows_a, .inl (cI, 24, .inl s_heldRows)), (s_heldColumns_a, .inl (cI, 24, .inl s_heldColumns)), (s_heldSixties_a, .inl (cI, 24, .inl s_heldSixties)), (s_certain_a, .inl (cI, 24, .inl s_certain))] H := hP
    refine lv_aload_n hx hb dX0_nextPlace_36 rfl (lv_at hl 0 rfl) ?_
    refine va_get (D := D) (ci := 0) (v := .int s_kind) (C := RX0) (T := TX0) (N := 9) hx hb hts wi_X0_nextPlace_X0 hown hK hP 0 rfl rfl 6 (by decide) (hts _ wm_X0_nextPlace_2) (fun _ h9 => h9) rfl dX0_nextPlace_37 ?_
    obtain ⟨kJ64, ekJ64, h⟩ := md_jo h
    have KJ64 : ∀ (u_64 : Unit), kJ64 u_64 = some res → ∀ (H : Heap) (locs : List Loc), va_P D vwCl [(so, .inr (0, [.ref s_heldRows_a, .ref s_heldColumns_a, .ref s_heldSixties_a, .ref s_certain_a, .int s_heldCount, .int s_rows, .int s_kind, .int s_n, .int (0 : Int32)])), (s_heldRows_a, .inl (cI, 24, .inl s_heldRows)), (s_heldColumns_a, .inl (cI, 24, .inl s_heldColumns)), (s_heldSixties_a, .inl (cI, 24, .inl s_heldSixties)), (s_certain_a, .inl (cI, 24, .inl s_certain))] H → va_S (fun q => q ∈ ([so, s_heldRows_a, s_heldColumns_a, s_heldSixties_a, s_certain_a] : List Nat)) s.heap H locs → ∀ (ls : Array Slot), lv_has ls 1 [(0, .ref so)] → W p l e rmX0_nextPlace s m args below meth c H locs 0 0 Q (F0 m 64 ls []) := by
      intro u_64 h H locs hP hS ls hl
      rw [ekJ64] at h
      refine lv_aload_n hx hb dX0_nextPlace_64 rfl (lv_at hl 0 rfl) ?_
      refine lv_dup hx hb dX0_nextPlace_65 rfl ?_
      refine va_get (D := D) (ci := 0) (v := .int s_kind) (C := RX0) (T := TX0) (N := 9) hx hb hts wi_X0_nextPlace_X0 hown hK hP 0 rfl rfl 6 (by decide) (hts _ wm_X0_nextPlace_2) (fun _ h9 => h9) rfl dX0_nextPlace_66 ?_
      refine lv_iconst (v := 1) hx hb dX0_nextPlace_69 (by decide) ?_
      refine lv_iadd hx hb dX0_nextPlace_70 ?_
      refine lv_topi (fun f_4 ef_4 => ?_)
      replace h := md_le ef_4 h
      refine va_put (D := D) (ci := 0) (v := .int f_4) (ty := .int) (C := RX0) (T := TX0) (N := 9) hx hb hts wi_X0_nextPlace_X0 tyX0 tyX0_ok nmX0 hown hK hP (kD hnd rfl) hS 0 rfl rfl 6 (by decide) (hts _ wm_X0_nextPlace_2) (fun _ h9 => h9) rfl (by decide +kernel) rfl rfl (Nat.le_of_ble_eq_true rfl) dX0_nextPlace_71 (fun H locs hP _ hS => ?_)
      have hP : va_P D vwCl [(so, .inr (0, [.ref s_heldRows_a, .ref s_heldColumns_a, .ref s_heldSixties_a, .ref s_certain_a, .int s_heldCount, .int s_rows, .int f_4, .int s_n, .int (0 : Int32)])), (s_heldRows_a, .inl (cI, 24, .inl s_heldRows)), (s_heldColumns_a, .inl (cI, 24, .inl s_heldColumns)), (s_heldSixties_a, .inl (cI, 24, .inl s_heldSixties)), (s_certain_a, .inl (cI, 24, .inl s_certain))] H := hP
      refine lv_aload_n hx hb dX0_nextPlace_74 rfl (lv_at hl 0 rfl) ?_
      refine lv_iconst (v := 0) hx hb dX0_nextPlace_75 (by decide) ?_
      refine va_put (D := D) (ci := 0) (v := .int (0 : Int32)) (ty := .int) (C := RX0) (T := TX0) (N := 9) hx hb hts wi_X0_nextPlace_X0 tyX0 tyX0_ok nmX0 hown hK hP (kD hnd rfl) hS 0 rfl rfl 7 (by decide) (hts _ wm_X0_nextPlace_3) (fun _ h9 => h9) rfl (by decide +kernel) rfl rfl (Nat.le_of_ble_eq_true rfl) dX0_nextPlace_76 (fun H locs hP _ hS => ?_)
      have hP : va_P D vwCl [(so, .inr (0, [.ref s_heldRows_a, .ref s_heldColumns_a, .ref s_heldSixties_a, .ref s_certain_a, .int s_heldCount, .int s_rows, .int f_4, .int (0 : Int32), .int (0 : Int32)])), (s_heldRows_a, .inl (cI, 24, .inl s_heldRows)), (s_heldColumns_a, .inl (cI, 24, .inl s_heldColumns)), (s_heldSixties_a, .inl (cI, 24, .inl s_heldSixties)), (s_certain_a, .inl (cI, 24, .inl s_certain))] H := hP
      refine lv_aload_n hx hb dX0_nextPlace_79 rfl (lv_at hl 0 rfl) ?_
      refine va_get (D := D) (ci := 0) (v := .int f_4) (C := RX0) (T := TX0) (N := 9) hx hb hts wi_X0_nextPlace_X0 hown hK hP 0 rfl rfl 6 (by decide) (hts _ wm_X0_nextPlace_2) (fun _ h9 => h9) rfl dX0_nextPlace_80 ?_
      refine lv_iconst (v := 4) hx hb dX0_nextPlace_83 (by decide) ?_
      refine lv_icmp_ge (tgt := 91) hx hb dX0_nextPlace_84 (by decide) (fun c5 => ?_) (fun c5 => ?_)
      · replace h := md_t c5 h
        refine lv_iconst (v := 0) hx hb dX0_nextPlace_91 (by decide) ?_
        exact hQ (0 : Int32) f_4 (0 : Int32) (0 : Int32) H locs 92 ls (by decide) h hP hS dX0_nextPlace_92
      replace h := md_f c5 h
      refine lv_iconst (v := 1) hx hb dX0_nextPlace_87 (by decide) ?_
      refine lv_goto (tgt := 92) hx hb dX0_nextPlace_88 (by decide) ?_
      exact hQ (1 : Int32) f_4 (0 : Int32) (0 : Int32) H locs 92 ls (by decide) h hP hS dX0_nextPlace_92
    clear ekJ64
    refine lv_if_ne (tgt := 64) hx hb dX0_nextPlace_40 (by decide) (fun c6 => ?_) (fun c6 => ?_)
    · replace h := md_f c6 h
      exact KJ64 () h _ _ hP hS ls (lv_sub hl [0] rfl)
    replace h := md_t c6 h
    refine lv_aload_n hx hb dX0_nextPlace_43 rfl (lv_at hl 0 rfl) ?_
    refine va_get (D := D) (ci := 0) (v := .int s_n) (C := RX0) (T := TX0) (N := 9) hx hb hts wi_X0_nextPlace_X0 hown hK hP 0 rfl rfl 7 (by decide) (hts _ wm_X0_nextPlace_3) (fun _ h9 => h9) rfl dX0_nextPlace_44 ?_
    refine lv_bipush (v := 59) hx hb dX0_nextPlace_47 (by decide) ?_
    refine lv_icmp_ge (tgt := 64) hx hb dX0_nextPlace_49 (by decide) (fun c7 => ?_) (fun c7 => ?_)
    · replace h := md_t c7 h
      exact KJ64 () h _ _ hP hS ls (lv_sub hl [0] rfl)
    replace h := md_f c7 h
    refine lv_aload_n hx hb dX0_nextPlace_52 rfl (lv_at hl 0 rfl) ?_
    refine lv_dup hx hb dX0_nextPlace_53 rfl ?_
    refine va_get (D := D) (ci := 0) (v := .int s_n) (C := RX0) (T := TX0) (N := 9) hx hb hts wi_X0_nextPlace_X0 hown hK hP 0 rfl rfl 7 (by decide) (hts _ wm_X0_nextPlace_3) (fun _ h9 => h9) rfl dX0_nextPlace_54 ?_
    refine lv_iconst (v := 1) hx hb dX0_nextPlace_57 (by decide) ?_
    refine lv_iadd hx hb dX0_nextPlace_58 ?_
    refine lv_topi (fun f_8 ef_8 => ?_)
    replace h := md_le ef_8 h
    refine va_put (D := D) (ci := 0) (v := .int f_8) (ty := .int) (C := RX0) (T := TX0) (N := 9) hx hb hts wi_X0_nextPlace_X0 tyX0 tyX0_ok nmX0 hown hK hP (kD hnd rfl) hS 0 rfl rfl 7 (by decide) (hts _ wm_X0_nextPlace_3) (fun _ h9 => h9) rfl (by decide +kernel) rfl rfl (Nat.le_of_ble_eq_true rfl) dX0_nextPlace_59 (fun H locs hP _ hS => ?_)
    have hP : va_P D vwCl [(so, .inr (0, [.ref s_heldRows_a, .ref s_heldColumns_a, .ref s_heldSixties_a, .ref s_certain_a, .int s_heldCount, .int s_rows, .int s_kind, .int f_8, .int (0 : Int32)])), (s_heldRows_a, .inl (cI, 24, .inl s_heldRows)), (s_heldColumns_a, .inl (cI, 24, .inl s_heldColumns)), (s_heldSixties_a, .inl (cI, 24, .inl s_heldSixties)), (s_certain_a, .inl (cI, 24, .inl s_certain))] H := hP
    refine lv_iconst (v := 1) hx hb dX0_nextPlace_62 (by decide) ?_
    exact hQ (1 : Int32) s_kind f_8 (0 : Int32) H locs 63 ls (by decide) h hP hS dX0_nextPlace_63
  replace h := md_f c3 h
  refine lv_iconst (v := 1) hx hb dX0_nextPlace_29 (by decide) ?_
  exact hQ (1 : Int32) s_kind s_n f_1 H locs 30 ls (by decide) h hP hS dX0_nextPlace_30
set_option maxHeartbeats 4000000 in
theorem ctX0_nextPlace (l : Launch) {D : va_G} {cI cT : ClassId} {so s_heldRows_a s_heldColumns_a s_heldSixties_a s_certain_a : Nat} {aL : Nat × Nat} {s_heldRows : Nat → Int32} {s_heldColumns : Nat → Int32} {s_heldSixties : Nat → Int32} {s_certain : Nat → Int32} {s_heldCount : Int32} {s_rows : Int32} {s_kind : Int32} {s_n : Int32} {s_first : Int32} {res : (Int32 × Int32 × Int32 × Int32)} (hnd : ([so, s_heldRows_a, s_heldColumns_a, s_heldSixties_a, s_certain_a] : List Nat).Nodup) (hm : mX0_nextPlace s_rows s_kind s_n s_first = some res) : Met l yX0_nextPlace wsX0_nextPlace rmX0_nextPlace (va_Pc [.ref so] (kW D cI cT [(so, .inr (0, [.ref s_heldRows_a, .ref s_heldColumns_a, .ref s_heldSixties_a, .ref s_certain_a, .int s_heldCount, .int s_rows, .int s_kind, .int s_n, .int s_first])), (s_heldRows_a, .inl (cI, 24, .inl s_heldRows)), (s_heldColumns_a, .inl (cI, 24, .inl s_heldColumns)), (s_heldSixties_a, .inl (cI, 24, .inl s_heldSixties)), (s_certain_a, .inl (cI, 24, .inl s_certain))] (some aL) (fun q => q ∈ ([so, s_heldRows_a, s_heldColumns_a, s_heldSixties_a, s_certain_a] : List Nat)))) (kX (some (.int res.1)) D [(so, .inr (0, [.ref s_heldRows_a, .ref s_heldColumns_a, .ref s_heldSixties_a, .ref s_certain_a, .int s_heldCount, .int s_rows, .int res.2.1, .int res.2.2.1, .int res.2.2.2])), (s_heldRows_a, .inl (cI, 24, .inl s_heldRows)), (s_heldColumns_a, .inl (cI, 24, .inl s_heldColumns)), (s_heldSixties_a, .inl (cI, 24, .inl s_heldSixties)), (s_certain_a, .inl (cI, 24, .inl s_certain))] (fun q => q ∈ ([so, s_heldRows_a, s_heldColumns_a, s_heldSixties_a, s_certain_a] : List Nat))) 0 0 (fun q => q ∈ ([so, s_heldRows_a, s_heldColumns_a, s_heldSixties_a, s_certain_a] : List Nat)) :=
  km (by decide) rfl (Nat.le_of_ble_eq_true rfl) (fun p e s m below meth c ls C hB hl => bX0_nextPlace C hB.1 (hB.2.2 aL rfl) hnd s_heldRows s_heldColumns s_heldSixties s_certain s_heldCount s_rows s_kind s_n s_first res (fun v s_kind1 s_n1 s_first1 H locs pc ls hz h hP hS hd => by obtain rfl := Option.some.inj h; exact kx_z C hz hP hS hd) hm s.heap [] hB.2.1 va_S.rf ls hl)
theorem wm_X0_sixtyHere_0 : Cond.fieldLink RX0 33 "SixtyTablet$Search" "kind" "I" ∈ wsX0_sixtyHere := by decide +kernel
theorem wm_X0_sixtyHere_1 : Cond.fieldLink RX0 36 "SixtyTablet$Search" "n" "I" ∈ wsX0_sixtyHere := by decide +kernel
theorem wm_X0_sixtyHere_2 : Cond.fieldLink RX0 39 "SixtyTablet$Search" "first" "I" ∈ wsX0_sixtyHere := by decide +kernel
theorem wi_X0_sixtyHere_X0 : ∀ w ∈ wsX00, w ∈ wsX0_sixtyHere := by decide +kernel
theorem kdvX0_sixtyHere : yX0_sixtyHere.cls = RX0 ∧ yX0_sixtyHere.cls ≠ "java/lang/invoke/MethodHandle" ∧ yX0_sixtyHere.cls ≠ "java/lang/invoke/VarHandle" ∧ (parseMethodDescriptor yX0_sixtyHere.desc).map (fun d => d.parameters.length) = some 2 := by decide +kernel
abbrev rmX0_sixtyHere : Room := { frames := 2, cells := 0, slots := 0, locals := 44 }
def mX0_sixtyHere (s_kind : Int32) (s_n : Int32) (s_first : Int32) (p1 : Int32) (p2 : Int32) : Option Int32 := (Option.bind (mX2_number s_kind s_n (s_first + p1) p2) (fun u1 => (Option.bind (mX1_strip (Int32.toInt64 u1)) (fun u2 => (some (Int64.toInt32 u2))))))
set_option maxHeartbeats 4000000 in
set_option maxRecDepth 100000 in
theorem bX0_sixtyHere {p : Program} {l : Launch} {e : Env} {s : State} {m : MethodId} {args : Array Value} {below : List Frame} {meth : Method} {c : Code} {Q : State → Prop} (C : kc p s m args meth c cX0_sixtyHere 3 RX0 yX0_sixtyHere.name wsX0_sixtyHere (some .int)) {D : va_G} {cI cT : ClassId} {so s_heldRows_a s_heldColumns_a s_heldSixties_a s_certain_a : Nat} {aL : Nat × Nat} (p1 : Int32) (p2 : Int32) (hK : va_K D vwCl (kTy cI cT) s) (hLz : kLz aL (fun _ => False) s s.heap) (s_heldRows : Nat → Int32) (s_heldColumns : Nat → Int32) (s_heldSixties : Nat → Int32) (s_certain : Nat → Int32) (s_heldCount : Int32) (s_rows : Int32) (s_kind : Int32) (s_n : Int32) (s_first : Int32) (hP : va_P D vwCl [(so, .inr (0, [.ref s_heldRows_a, .ref s_heldColumns_a, .ref s_heldSixties_a, .ref s_certain_a, .int s_heldCount, .int s_rows, .int s_kind, .int s_n, .int s_first])), (s_heldRows_a, .inl (cI, 24, .inl s_heldRows)), (s_heldColumns_a, .inl (cI, 24, .inl s_heldColumns)), (s_heldSixties_a, .inl (cI, 24, .inl s_heldSixties)), (s_certain_a, .inl (cI, 24, .inl s_certain))] s.heap) (res : Int32) (hQ : ∀ (v : Int32) (pc : Nat) (ls : Array Slot), some v = some res → decode cX0_sixtyHere pc = .ok (.ireturn, 1) → W p l e rmX0_sixtyHere s m args below meth c s.heap [] 0 0 Q (F0 m pc ls [.int v])) : mX0_sixtyHere s_kind s_n s_first p1 p2 = some res → ∀ (ls : Array Slot), lv_has ls 3 [(0, .ref so), (1, .int p1), (2, .int p2)] → W p l e rmX0_sixtyHere s m args below meth c s.heap [] 0 0 Q (F0 m 0 ls []) := by
  intro h ls hl
  have C0 := C
  obtain ⟨hx, hb, hml, hown, hts, hr, hlk, hnm⟩ := C0
  rw [mX0_sixtyHere] at h
  refine lv_aload_n hx hb dX0_sixtyHere_0 rfl (lv_at hl 0 rfl) ?_
  refine va_get (D := D) (ci := 0) (v := .int s_kind) (C := RX0) (T := TX0) (N := 9) hx hb hts wi_X0_sixtyHere_X0 hown hK hP 0 rfl rfl 6 (by decide) (hts _ wm_X0_sixtyHere_0) (fun _ h9 => h9) rfl dX0_sixtyHere_1 ?_
  refine lv_aload_n hx hb dX0_sixtyHere_4 rfl (lv_at hl 0 rfl) ?_
  refine va_get (D := D) (ci := 0) (v := .int s_n) (C := RX0) (T := TX0) (N := 9) hx hb hts wi_X0_sixtyHere_X0 hown hK hP 0 rfl rfl 7 (by decide) (hts _ wm_X0_sixtyHere_1) (fun _ h9 => h9) rfl dX0_sixtyHere_5 ?_
  refine lv_aload_n hx hb dX0_sixtyHere_8 rfl (lv_at hl 0 rfl) ?_
  refine va_get (D := D) (ci := 0) (v := .int s_first) (C := RX0) (T := TX0) (N := 9) hx hb hts wi_X0_sixtyHere_X0 hown hK hP 0 rfl rfl 8 (by decide) (hts _ wm_X0_sixtyHere_2) (fun _ h9 => h9) rfl dX0_sixtyHere_9 ?_
  refine lv_iload_n hx hb dX0_sixtyHere_12 rfl (lv_at hl 1 rfl) ?_
  refine lv_iadd hx hb dX0_sixtyHere_13 ?_
  refine lv_iload_n hx hb dX0_sixtyHere_14 rfl (lv_at hl 2 rfl) ?_
  obtain ⟨u1, hu1, h⟩ := md_b h
  refine kS C (ctX2_number l  hu1) gX0_sixtyHere_X2_number rfl kdX2_number ⟨rfl, rfl⟩ ⟨by decide, by decide⟩ kW_blind (kW_use hK va_P0 (kL_ro hLz (fun _ q => q))) rfl hl [] rfl (Nat.le_of_ble_eq_true rfl) dX0_sixtyHere_15 ⟨by decide, by decide⟩ ?_
  refine lv_i2l hx hb dX0_sixtyHere_18 rfl ?_
  obtain ⟨u2, hu2, h⟩ := md_b h
  refine kS C (ctX1_strip l  hu2) gX0_sixtyHere_X1_strip rfl kdX1_strip ⟨rfl, rfl⟩ ⟨by decide, by decide⟩ kT_blind (fun _ _ _ => trivial) rfl hl [] rfl (Nat.le_of_ble_eq_true rfl) dX0_sixtyHere_19 ⟨by decide, by decide⟩ ?_
  refine lv_l2i hx hb dX0_sixtyHere_22 rfl ?_
  exact hQ (Int64.toInt32 u2) 23 ls h dX0_sixtyHere_23
set_option maxHeartbeats 4000000 in
theorem ctX0_sixtyHere (l : Launch) {D : va_G} {cI cT : ClassId} {so s_heldRows_a s_heldColumns_a s_heldSixties_a s_certain_a : Nat} {aL : Nat × Nat} {s_heldRows : Nat → Int32} {s_heldColumns : Nat → Int32} {s_heldSixties : Nat → Int32} {s_certain : Nat → Int32} {s_heldCount : Int32} {s_rows : Int32} {s_kind : Int32} {s_n : Int32} {s_first : Int32} {p1 : Int32} {p2 : Int32} {res : Int32} (hm : mX0_sixtyHere s_kind s_n s_first p1 p2 = some res) : Met l yX0_sixtyHere wsX0_sixtyHere rmX0_sixtyHere (va_Pc [.ref so, .int p1, .int p2] (kW D cI cT [(so, .inr (0, [.ref s_heldRows_a, .ref s_heldColumns_a, .ref s_heldSixties_a, .ref s_certain_a, .int s_heldCount, .int s_rows, .int s_kind, .int s_n, .int s_first])), (s_heldRows_a, .inl (cI, 24, .inl s_heldRows)), (s_heldColumns_a, .inl (cI, 24, .inl s_heldColumns)), (s_heldSixties_a, .inl (cI, 24, .inl s_heldSixties)), (s_certain_a, .inl (cI, 24, .inl s_certain))] (some aL) (fun _ => False))) (kR (.int res)) 0 0 (fun _ => False) :=
  km (by decide) rfl (Nat.le_of_ble_eq_true rfl) (fun p e s m below meth c ls C hB hl => bX0_sixtyHere C p1 p2 hB.1 (hB.2.2 aL rfl) s_heldRows s_heldColumns s_heldSixties s_certain s_heldCount s_rows s_kind s_n s_first hB.2.1 res (fun v pc ls h hd => kr_i C h hd) hm ls hl)
theorem wm_X0_strayRow_0 : Cond.fieldLink RX0 24 "SixtyTablet$Search" "heldCount" "I" ∈ wsX0_strayRow := by decide +kernel
theorem wm_X0_strayRow_1 : Cond.fieldLink RX0 9 "SixtyTablet$Search" "heldRows" "[I" ∈ wsX0_strayRow := by decide +kernel
theorem wm_X0_strayRow_2 : Cond.fieldLink RX0 18 "SixtyTablet$Search" "heldSixties" "[I" ∈ wsX0_strayRow := by decide +kernel
theorem wm_X0_strayRow_3 : Cond.fieldLink RX0 15 "SixtyTablet$Search" "heldColumns" "[I" ∈ wsX0_strayRow := by decide +kernel
theorem wi_X0_strayRow_X0 : ∀ w ∈ wsX00, w ∈ wsX0_strayRow := by decide +kernel
theorem kdvX0_strayRow : yX0_strayRow.cls = RX0 ∧ yX0_strayRow.cls ≠ "java/lang/invoke/MethodHandle" ∧ yX0_strayRow.cls ≠ "java/lang/invoke/VarHandle" ∧ (parseMethodDescriptor yX0_strayRow.desc).map (fun d => d.parameters.length) = some 0 := by decide +kernel
abbrev rmX0_strayRow : Room := { frames := 3, cells := 0, slots := 0, locals := 66 }
def mlX0_strayRow_4 (s_heldRows : Nat → Int32) (s_heldColumns : Nat → Int32) (s_heldSixties : Nat → Int32) (s_heldCount : Int32) (s_kind : Int32) (s_n : Int32) (s_first : Int32) (kE : Int32 → Option Int32) : Nat → Int32 → Int32 → Option Int32
  | 0, _, _ => none
  | n + 1, x1, x2 => (if s_heldCount ≤ x2 then (kE x1) else (if (24 : Int32) ≤ x2 then (kE x1) else (if x2 < 0 ∨ 24 ≤ (Int32.toNatClampNeg x2) then none else (md_let (s_heldRows (Int32.toNatClampNeg x2)) (fun (x3_4 : Int32) => (md_jn (fun (x1_60 : Int32) => (md_let (x2 + (1 : Int32)) (fun (x2_5 : Int32) => (mlX0_strayRow_4 s_heldRows s_heldColumns s_heldSixties s_heldCount s_kind s_n s_first kE n x1_60 x2_5)))) (fun kJ60 => (if x3_4 = x1 then (kJ60 x1) else (if x2 < 0 ∨ 24 ≤ (Int32.toNatClampNeg x2) then none else (if x2 < 0 ∨ 24 ≤ (Int32.toNatClampNeg x2) then none else (Option.bind (mX0_sixtyHere s_kind s_n s_first x3_4 (s_heldColumns (Int32.toNatClampNeg x2))) (fun u9 => (if (s_heldSixties (Int32.toNatClampNeg x2)) = u9 then (kJ60 x1) else (if x1 = (-1 : Int32) then (kJ60 x3_4) else (some (-2 : Int32))))))))))))))))
set_option maxHeartbeats 4000000 in
set_option maxRecDepth 100000 in
theorem lX0_strayRow_4 {p : Program} {l : Launch} {e : Env} {s : State} {m : MethodId} {args : Array Value} {below : List Frame} {meth : Method} {c : Code} {Q : State → Prop} (C : kc p s m args meth c cX0_strayRow 4 RX0 yX0_strayRow.name wsX0_strayRow (some .int)) {D : va_G} {cI cT : ClassId} {so s_heldRows_a s_heldColumns_a s_heldSixties_a s_certain_a : Nat} {aL : Nat × Nat} (hK : va_K D vwCl (kTy cI cT) s) (hLz : kLz aL (fun _ => False) s s.heap) (s_heldRows : Nat → Int32) (s_heldColumns : Nat → Int32) (s_heldSixties : Nat → Int32) (s_certain : Nat → Int32) (s_heldCount : Int32) (s_rows : Int32) (s_kind : Int32) (s_n : Int32) (s_first : Int32) (hP : va_P D vwCl [(so, .inr (0, [.ref s_heldRows_a, .ref s_heldColumns_a, .ref s_heldSixties_a, .ref s_certain_a, .int s_heldCount, .int s_rows, .int s_kind, .int s_n, .int s_first])), (s_heldRows_a, .inl (cI, 24, .inl s_heldRows)), (s_heldColumns_a, .inl (cI, 24, .inl s_heldColumns)), (s_heldSixties_a, .inl (cI, 24, .inl s_heldSixties)), (s_certain_a, .inl (cI, 24, .inl s_certain))] s.heap) (res : Int32) (hQ : ∀ (v : Int32) (pc : Nat) (ls : Array Slot), some v = some res → decode cX0_strayRow pc = .ok (.ireturn, 1) → W p l e rmX0_strayRow s m args below meth c s.heap [] 0 0 Q (F0 m pc ls [.int v])) (kE : Int32 → Option Int32) (hE : ∀ (y1 : Int32), kE y1 = some res → ∀ (ls : Array Slot), lv_has ls 4 [(1, .int y1)] → W p l e rmX0_strayRow s m args below meth c s.heap [] 0 0 Q (F0 m 66 ls [])) : ∀ (n : Nat), ∀ (x1 : Int32) (x2 : Int32), mlX0_strayRow_4 s_heldRows s_heldColumns s_heldSixties s_heldCount s_kind s_n s_first kE n x1 x2 = some res → ∀ (ls : Array Slot), lv_has ls 4 [(0, .ref so), (1, .int x1), (2, .int x2)] → W p l e rmX0_strayRow s m args below meth c s.heap [] 0 0 Q (F0 m 4 ls []) := by
  have C0 := C
  obtain ⟨hx, hb, hml, hown, hts, hr, hlk, hnm⟩ := C0
  intro n
  induction n with
  | zero => intro _ _ h; exact md_x h
  | succ n ih =>
    intro x1 x2 h ls hl
    rw [mlX0_strayRow_4] at h
    refine lv_iload_n hx hb dX0_strayRow_4 rfl (lv_at hl 2 rfl) ?_
    refine lv_aload_n hx hb dX0_strayRow_5 rfl (lv_at hl 0 rfl) ?_
    refine va_get (D := D) (ci := 0) (v := .int s_heldCount) (C := RX0) (T := TX0) (N := 9) hx hb hts wi_X0_strayRow_X0 hown hK hP 0 rfl rfl 4 (by decide) (hts _ wm_X0_strayRow_0) (fun _ h9 => h9) rfl dX0_strayRow_6 ?_
    refine lv_icmp_ge (tgt := 66) hx hb dX0_strayRow_9 (by decide) (fun c1 => ?_) (fun c1 => ?_)
    · replace h := md_t c1 h
      exact hE x1 h ls (lv_sub hl [1] rfl)
    replace h := md_f c1 h
    refine lv_iload_n hx hb dX0_strayRow_12 rfl (lv_at hl 2 rfl) ?_
    refine lv_bipush (v := 24) hx hb dX0_strayRow_13 (by decide) ?_
    refine lv_icmp_ge (tgt := 66) hx hb dX0_strayRow_15 (by decide) (fun c2 => ?_) (fun c2 => ?_)
    · replace h := md_t c2 h
      exact hE x1 h ls (lv_sub hl [1] rfl)
    replace h := md_f c2 h
    refine lv_aload_n hx hb dX0_strayRow_18 rfl (lv_at hl 0 rfl) ?_
    refine va_get (D := D) (ci := 0) (v := .ref s_heldRows_a) (C := RX0) (T := TX0) (N := 9) hx hb hts wi_X0_strayRow_X0 hown hK hP 0 rfl rfl 0 (by decide) (hts _ wm_X0_strayRow_1) (fun _ h9 => h9) rfl dX0_strayRow_19 ?_
    refine lv_iload_n hx hb dX0_strayRow_22 rfl (lv_at hl 2 rfl) ?_
    obtain ⟨hin3, h⟩ := md_g h
    refine va_iald hx hb hK hP 1 0 rfl rfl hin3 dX0_strayRow_23 ?_
    refine lv_topi (fun x3_4 ex3_4 => ?_)
    replace h := md_le ex3_4 h
    refine lv_istore_n (lv' := [(3, .int x3_4), (0, .ref so), (1, .int x1), (2, .int x2)]) hx hb dX0_strayRow_24 rfl hl (by decide) rfl (fun ls hl => ?_)
    refine lv_iload_n hx hb dX0_strayRow_25 rfl (lv_at hl 0 rfl) ?_
    refine lv_iload_n hx hb dX0_strayRow_26 rfl (lv_at hl 2 rfl) ?_
    obtain ⟨kJ60, ekJ60, h⟩ := md_jo h
    have KJ60 : ∀ (x1_60 : Int32), kJ60 x1_60 = some res → ∀ (ls : Array Slot), lv_has ls 4 [(0, .ref so), (1, .int x1_60), (2, .int x2)] → W p l e rmX0_strayRow s m args below meth c s.heap [] 0 0 Q (F0 m 60 ls []) := by
      intro x1_60 h ls hl
      rw [ekJ60] at h
      obtain ⟨x2_5, ex2_5⟩ : ∃ y : Int32, y = (x2 + (1 : Int32)) := ⟨_, rfl⟩
      replace h := md_le ex2_5 h
      refine lv_iinc (v := x2_5) (lv' := [(2, .int x2_5), (0, .ref so), (1, .int x1_60)]) hx hb dX0_strayRow_60 hl (k := 2) rfl (by rw [ex2_5]; rfl) (by decide) rfl (fun ls hl => ?_)
      refine lv_goto (tgt := 4) hx hb dX0_strayRow_63 (by decide) ?_
      exact ih x1_60 x2_5 h ls (lv_sub hl [1, 2, 0] rfl)
    clear ekJ60
    refine lv_icmp_eq (tgt := 60) hx hb dX0_strayRow_27 (by decide) (fun c6 => ?_) (fun c6 => ?_)
    · replace h := md_t c6 h
      exact KJ60 x1 h ls (lv_sub hl [1, 2, 3] rfl)
    replace h := md_f c6 h
    refine lv_aload_n hx hb dX0_strayRow_30 rfl (lv_at hl 1 rfl) ?_
    refine va_get (D := D) (ci := 0) (v := .ref s_heldSixties_a) (C := RX0) (T := TX0) (N := 9) hx hb hts wi_X0_strayRow_X0 hown hK hP 0 rfl rfl 2 (by decide) (hts _ wm_X0_strayRow_2) (fun _ h9 => h9) rfl dX0_strayRow_31 ?_
    refine lv_iload_n hx hb dX0_strayRow_34 rfl (lv_at hl 3 rfl) ?_
    obtain ⟨hin7, h⟩ := md_g h
    refine va_iald hx hb hK hP 3 0 rfl rfl hin7 dX0_strayRow_35 ?_
    refine lv_aload_n hx hb dX0_strayRow_36 rfl (lv_at hl 1 rfl) ?_
    refine lv_iload_n hx hb dX0_strayRow_37 rfl (lv_at hl 0 rfl) ?_
    refine lv_aload_n hx hb dX0_strayRow_38 rfl (lv_at hl 1 rfl) ?_
    refine va_get (D := D) (ci := 0) (v := .ref s_heldColumns_a) (C := RX0) (T := TX0) (N := 9) hx hb hts wi_X0_strayRow_X0 hown hK hP 0 rfl rfl 1 (by decide) (hts _ wm_X0_strayRow_3) (fun _ h9 => h9) rfl dX0_strayRow_39 ?_
    refine lv_iload_n hx hb dX0_strayRow_42 rfl (lv_at hl 3 rfl) ?_
    obtain ⟨hin8, h⟩ := md_g h
    refine va_iald hx hb hK hP 2 0 rfl rfl hin8 dX0_strayRow_43 ?_
    obtain ⟨u9, hu9, h⟩ := md_b h
    refine kV C (ctX0_sixtyHere l  hu9) gX0_strayRow_X0_sixtyHere rfl kdvX0_sixtyHere ⟨rfl, rfl⟩ ⟨by decide, by decide⟩ kW_blind (va_recv hK hP (ci := 0) (q0 := 0) rfl rfl) (kW_use hK (hP.sub (ws' := [(so, .inr (0, [.ref s_heldRows_a, .ref s_heldColumns_a, .ref s_heldSixties_a, .ref s_certain_a, .int s_heldCount, .int s_rows, .int s_kind, .int s_n, .int s_first])), (s_heldRows_a, .inl (cI, 24, .inl s_heldRows)), (s_heldColumns_a, .inl (cI, 24, .inl s_heldColumns)), (s_heldSixties_a, .inl (cI, 24, .inl s_heldSixties)), (s_certain_a, .inl (cI, 24, .inl s_certain))]) [0, 1, 2, 3, 4] rfl) (kL_ro hLz (fun _ q => q))) rfl hl [.int (s_heldSixties (Int32.toNatClampNeg x2))] rfl (Nat.le_of_ble_eq_true rfl) dX0_strayRow_44 ⟨by decide, by decide⟩ ?_
    refine lv_icmp_eq (tgt := 60) hx hb dX0_strayRow_47 (by decide) (fun c10 => ?_) (fun c10 => ?_)
    · replace h := md_t c10 h
      exact KJ60 x1 h ls (lv_sub hl [1, 2, 3] rfl)
    replace h := md_f c10 h
    refine lv_iload_n hx hb dX0_strayRow_50 rfl (lv_at hl 2 rfl) ?_
    refine lv_iconst (v := -1) hx hb dX0_strayRow_51 (by decide) ?_
    refine lv_icmp_eq (tgt := 58) hx hb dX0_strayRow_52 (by decide) (fun c11 => ?_) (fun c11 => ?_)
    · replace h := md_t c11 h
      refine lv_iload_n hx hb dX0_strayRow_58 rfl (lv_at hl 0 rfl) ?_
      refine lv_istore_n (lv' := [(1, .int x3_4), (3, .int x3_4), (0, .ref so), (2, .int x2)]) hx hb dX0_strayRow_59 rfl hl (by decide) rfl (fun ls hl => ?_)
      exact KJ60 x3_4 h ls (lv_sub hl [2, 0, 3] rfl)
    replace h := md_f c11 h
    refine lv_bipush (v := -2) hx hb dX0_strayRow_55 (by decide) ?_
    exact hQ (-2 : Int32) 57 ls h dX0_strayRow_57
def mX0_strayRow (s_heldRows : Nat → Int32) (s_heldColumns : Nat → Int32) (s_heldSixties : Nat → Int32) (s_heldCount : Int32) (s_kind : Int32) (s_n : Int32) (s_first : Int32) : Option Int32 := (mlX0_strayRow_4 s_heldRows s_heldColumns s_heldSixties s_heldCount s_kind s_n s_first (fun (y1_66 : Int32) => (some y1_66)) kN (-1 : Int32) (0 : Int32))
set_option maxHeartbeats 4000000 in
set_option maxRecDepth 100000 in
theorem bX0_strayRow {p : Program} {l : Launch} {e : Env} {s : State} {m : MethodId} {args : Array Value} {below : List Frame} {meth : Method} {c : Code} {Q : State → Prop} (C : kc p s m args meth c cX0_strayRow 4 RX0 yX0_strayRow.name wsX0_strayRow (some .int)) {D : va_G} {cI cT : ClassId} {so s_heldRows_a s_heldColumns_a s_heldSixties_a s_certain_a : Nat} {aL : Nat × Nat} (hK : va_K D vwCl (kTy cI cT) s) (hLz : kLz aL (fun _ => False) s s.heap) (s_heldRows : Nat → Int32) (s_heldColumns : Nat → Int32) (s_heldSixties : Nat → Int32) (s_certain : Nat → Int32) (s_heldCount : Int32) (s_rows : Int32) (s_kind : Int32) (s_n : Int32) (s_first : Int32) (hP : va_P D vwCl [(so, .inr (0, [.ref s_heldRows_a, .ref s_heldColumns_a, .ref s_heldSixties_a, .ref s_certain_a, .int s_heldCount, .int s_rows, .int s_kind, .int s_n, .int s_first])), (s_heldRows_a, .inl (cI, 24, .inl s_heldRows)), (s_heldColumns_a, .inl (cI, 24, .inl s_heldColumns)), (s_heldSixties_a, .inl (cI, 24, .inl s_heldSixties)), (s_certain_a, .inl (cI, 24, .inl s_certain))] s.heap) (res : Int32) (hQ : ∀ (v : Int32) (pc : Nat) (ls : Array Slot), some v = some res → decode cX0_strayRow pc = .ok (.ireturn, 1) → W p l e rmX0_strayRow s m args below meth c s.heap [] 0 0 Q (F0 m pc ls [.int v])) : mX0_strayRow s_heldRows s_heldColumns s_heldSixties s_heldCount s_kind s_n s_first = some res → ∀ (ls : Array Slot), lv_has ls 4 [(0, .ref so)] → W p l e rmX0_strayRow s m args below meth c s.heap [] 0 0 Q (F0 m 0 ls []) := by
  intro h ls hl
  have C0 := C
  obtain ⟨hx, hb, hml, hown, hts, hr, hlk, hnm⟩ := C0
  rw [mX0_strayRow] at h
  refine lv_iconst (v := -1) hx hb dX0_strayRow_0 (by decide) ?_
  refine lv_istore_n (lv' := [(1, .int (-1 : Int32)), (0, .ref so)]) hx hb dX0_strayRow_1 rfl hl (by decide) rfl (fun ls hl => ?_)
  refine lv_iconst (v := 0) hx hb dX0_strayRow_2 (by decide) ?_
  refine lv_istore_n (lv' := [(2, .int (0 : Int32)), (1, .int (-1 : Int32)), (0, .ref so)]) hx hb dX0_strayRow_3 rfl hl (by decide) rfl (fun ls hl => ?_)
  refine lX0_strayRow_4 (so := so) (s_heldRows_a := s_heldRows_a) (s_heldColumns_a := s_heldColumns_a) (s_heldSixties_a := s_heldSixties_a) (s_certain_a := s_certain_a) C hK hLz s_heldRows s_heldColumns s_heldSixties s_certain s_heldCount s_rows s_kind s_n s_first hP res hQ _ (fun y1_66 h ls hl => ?_) kN (-1 : Int32) (0 : Int32) h ls (lv_sub hl [2, 1, 0] rfl)
  refine lv_iload_n hx hb dX0_strayRow_66 rfl (lv_at hl 0 rfl) ?_
  exact hQ y1_66 67 ls h dX0_strayRow_67
set_option maxHeartbeats 4000000 in
theorem ctX0_strayRow (l : Launch) {D : va_G} {cI cT : ClassId} {so s_heldRows_a s_heldColumns_a s_heldSixties_a s_certain_a : Nat} {aL : Nat × Nat} {s_heldRows : Nat → Int32} {s_heldColumns : Nat → Int32} {s_heldSixties : Nat → Int32} {s_certain : Nat → Int32} {s_heldCount : Int32} {s_rows : Int32} {s_kind : Int32} {s_n : Int32} {s_first : Int32} {res : Int32} (hm : mX0_strayRow s_heldRows s_heldColumns s_heldSixties s_heldCount s_kind s_n s_first = some res) : Met l yX0_strayRow wsX0_strayRow rmX0_strayRow (va_Pc [.ref so] (kW D cI cT [(so, .inr (0, [.ref s_heldRows_a, .ref s_heldColumns_a, .ref s_heldSixties_a, .ref s_certain_a, .int s_heldCount, .int s_rows, .int s_kind, .int s_n, .int s_first])), (s_heldRows_a, .inl (cI, 24, .inl s_heldRows)), (s_heldColumns_a, .inl (cI, 24, .inl s_heldColumns)), (s_heldSixties_a, .inl (cI, 24, .inl s_heldSixties)), (s_certain_a, .inl (cI, 24, .inl s_certain))] (some aL) (fun _ => False))) (kR (.int res)) 0 0 (fun _ => False) :=
  km (by decide) rfl (Nat.le_of_ble_eq_true rfl) (fun p e s m below meth c ls C hB hl => bX0_strayRow C hB.1 (hB.2.2 aL rfl) s_heldRows s_heldColumns s_heldSixties s_certain s_heldCount s_rows s_kind s_n s_first hB.2.1 res (fun v pc ls h hd => kr_i C h hd) hm ls hl)
theorem kdvX0_nextReading : yX0_nextReading.cls = RX0 ∧ yX0_nextReading.cls ≠ "java/lang/invoke/MethodHandle" ∧ yX0_nextReading.cls ≠ "java/lang/invoke/VarHandle" ∧ (parseMethodDescriptor yX0_nextReading.desc).map (fun d => d.parameters.length) = some 0 := by decide +kernel
abbrev rmX0_nextReading : Room := { frames := 4, cells := 0, slots := 0, locals := 89 }
def mlX0_nextReading_2 (s_heldRows : Nat → Int32) (s_heldColumns : Nat → Int32) (s_heldSixties : Nat → Int32) (s_heldCount : Int32) (s_rows : Int32) (kE : Int32 → Int32 → Int32 → Option (Int32 × Int32 × Int32 × Int32)) : Nat → Int32 → Int32 → Int32 → Int32 → Option (Int32 × Int32 × Int32 × Int32)
  | 0, _, _, _, _ => none
  | n + 1, x1, s_kind, s_n, s_first => (if (4000 : Int32) ≤ x1 then (kE s_kind s_n s_first) else (Option.bind (mX0_nextPlace s_rows s_kind s_n s_first) (fun u2 => (if u2.1 = 0 then (kE u2.2.1 u2.2.2.1 u2.2.2.2) else (Option.bind (mX0_strayRow s_heldRows s_heldColumns s_heldSixties s_heldCount u2.2.1 u2.2.2.1 u2.2.2.2) (fun u4 => (if u4 = (-1 : Int32) then (some ((1 : Int32), u2.2.1, u2.2.2.1, u2.2.2.2)) else (md_let (x1 + (1 : Int32)) (fun (x1_6 : Int32) => (mlX0_nextReading_2 s_heldRows s_heldColumns s_heldSixties s_heldCount s_rows kE n x1_6 u2.2.1 u2.2.2.1 u2.2.2.2))))))))))
set_option maxHeartbeats 4000000 in
set_option maxRecDepth 100000 in
theorem lX0_nextReading_2 {p : Program} {l : Launch} {e : Env} {s : State} {m : MethodId} {args : Array Value} {below : List Frame} {meth : Method} {c : Code} {Q : State → Prop} (C : kc p s m args meth c cX0_nextReading 2 RX0 yX0_nextReading.name wsX0_nextReading (some .boolean)) {D : va_G} {cI cT : ClassId} {so s_heldRows_a s_heldColumns_a s_heldSixties_a s_certain_a : Nat} {aL : Nat × Nat} (hK : va_K D vwCl (kTy cI cT) s) (hLz : kLz aL (fun q => q ∈ ([so, s_heldRows_a, s_heldColumns_a, s_heldSixties_a, s_certain_a] : List Nat)) s s.heap) (hnd : ([so, s_heldRows_a, s_heldColumns_a, s_heldSixties_a, s_certain_a] : List Nat).Nodup) (s_heldRows : Nat → Int32) (s_heldColumns : Nat → Int32) (s_heldSixties : Nat → Int32) (s_certain : Nat → Int32) (s_heldCount : Int32) (s_rows : Int32) (res : (Int32 × Int32 × Int32 × Int32)) (hQ : ∀ (v : Int32) (s_kind : Int32) (s_n : Int32) (s_first : Int32) (H : Heap) (locs : List Loc) (pc : Nat) (ls : Array Slot), v = 0 ∨ v = 1 → some (v, s_kind, s_n, s_first) = some res → va_P D vwCl [(so, .inr (0, [.ref s_heldRows_a, .ref s_heldColumns_a, .ref s_heldSixties_a, .ref s_certain_a, .int s_heldCount, .int s_rows, .int s_kind, .int s_n, .int s_first])), (s_heldRows_a, .inl (cI, 24, .inl s_heldRows)), (s_heldColumns_a, .inl (cI, 24, .inl s_heldColumns)), (s_heldSixties_a, .inl (cI, 24, .inl s_heldSixties)), (s_certain_a, .inl (cI, 24, .inl s_certain))] H → va_S (fun q => q ∈ ([so, s_heldRows_a, s_heldColumns_a, s_heldSixties_a, s_certain_a] : List Nat)) s.heap H locs → decode cX0_nextReading pc = .ok (.ireturn, 1) → W p l e rmX0_nextReading s m args below meth c H locs 0 0 Q (F0 m pc ls [.int v])) (kE : Int32 → Int32 → Int32 → Option (Int32 × Int32 × Int32 × Int32)) (hE : ∀ (s_kind : Int32) (s_n : Int32) (s_first : Int32), kE s_kind s_n s_first = some res → ∀ (H : Heap) (locs : List Loc), va_P D vwCl [(so, .inr (0, [.ref s_heldRows_a, .ref s_heldColumns_a, .ref s_heldSixties_a, .ref s_certain_a, .int s_heldCount, .int s_rows, .int s_kind, .int s_n, .int s_first])), (s_heldRows_a, .inl (cI, 24, .inl s_heldRows)), (s_heldColumns_a, .inl (cI, 24, .inl s_heldColumns)), (s_heldSixties_a, .inl (cI, 24, .inl s_heldSixties)), (s_certain_a, .inl (cI, 24, .inl s_certain))] H → va_S (fun q => q ∈ ([so, s_heldRows_a, s_heldColumns_a, s_heldSixties_a, s_certain_a] : List Nat)) s.heap H locs → ∀ (ls : Array Slot), lv_has ls 2 [] → W p l e rmX0_nextReading s m args below meth c H locs 0 0 Q (F0 m 32 ls [])) : ∀ (n : Nat), ∀ (x1 : Int32) (s_kind : Int32) (s_n : Int32) (s_first : Int32), mlX0_nextReading_2 s_heldRows s_heldColumns s_heldSixties s_heldCount s_rows kE n x1 s_kind s_n s_first = some res → ∀ (H : Heap) (locs : List Loc), va_P D vwCl [(so, .inr (0, [.ref s_heldRows_a, .ref s_heldColumns_a, .ref s_heldSixties_a, .ref s_certain_a, .int s_heldCount, .int s_rows, .int s_kind, .int s_n, .int s_first])), (s_heldRows_a, .inl (cI, 24, .inl s_heldRows)), (s_heldColumns_a, .inl (cI, 24, .inl s_heldColumns)), (s_heldSixties_a, .inl (cI, 24, .inl s_heldSixties)), (s_certain_a, .inl (cI, 24, .inl s_certain))] H → va_S (fun q => q ∈ ([so, s_heldRows_a, s_heldColumns_a, s_heldSixties_a, s_certain_a] : List Nat)) s.heap H locs → ∀ (ls : Array Slot), lv_has ls 2 [(0, .ref so), (1, .int x1)] → W p l e rmX0_nextReading s m args below meth c H locs 0 0 Q (F0 m 2 ls []) := by
  have C0 := C
  obtain ⟨hx, hb, hml, hown, hts, hr, hlk, hnm⟩ := C0
  intro n
  induction n with
  | zero => intro _ _ _ _ h; exact md_x h
  | succ n ih =>
    intro x1 s_kind s_n s_first h H locs hP hS ls hl
    rw [mlX0_nextReading_2] at h
    refine lv_iload_n hx hb dX0_nextReading_2 rfl (lv_at hl 1 rfl) ?_
    refine lv_sipush (v := 4000) hx hb dX0_nextReading_3 (by decide) ?_
    refine lv_icmp_ge (tgt := 32) hx hb dX0_nextReading_6 (by decide) (fun c1 => ?_) (fun c1 => ?_)
    · replace h := md_t c1 h
      exact hE s_kind s_n s_first h _ _ hP hS ls (lv_sub hl [] rfl)
    replace h := md_f c1 h
    refine lv_aload_n hx hb dX0_nextReading_9 rfl (lv_at hl 0 rfl) ?_
    obtain ⟨u2, hu2, h⟩ := md_b h
    refine kVx C (ctX0_nextPlace l (nd_sub hnd [0, 1, 2, 3, 4] (by decide) rfl) hu2) gX0_nextReading_X0_nextPlace rfl kdvX0_nextPlace ⟨rfl, rfl⟩ ⟨by decide, by decide⟩ kW_blind (va_recv hK hP (ci := 0) (q0 := 0) rfl rfl) (kW_use hK (hP.sub (ws' := [(so, .inr (0, [.ref s_heldRows_a, .ref s_heldColumns_a, .ref s_heldSixties_a, .ref s_certain_a, .int s_heldCount, .int s_rows, .int s_kind, .int s_n, .int s_first])), (s_heldRows_a, .inl (cI, 24, .inl s_heldRows)), (s_heldColumns_a, .inl (cI, 24, .inl s_heldColumns)), (s_heldSixties_a, .inl (cI, 24, .inl s_heldSixties)), (s_certain_a, .inl (cI, 24, .inl s_certain))]) [0, 1, 2, 3, 4] rfl) (kL_at hLz hS (mem_sub [0, 1, 2, 3, 4] rfl))) rfl hl [] rfl (Nat.le_of_ble_eq_true rfl) dX0_nextReading_10 ⟨by decide, by decide⟩ hS (mem_sub [0, 1, 2, 3, 4] rfl) (fun H1 locs hP1 hk1 hS => ?_)
    replace hP : va_P D vwCl [(so, .inr (0, [.ref s_heldRows_a, .ref s_heldColumns_a, .ref s_heldSixties_a, .ref s_certain_a, .int s_heldCount, .int s_rows, .int u2.2.1, .int u2.2.2.1, .int u2.2.2.2])), (s_heldRows_a, .inl (cI, 24, .inl s_heldRows)), (s_heldColumns_a, .inl (cI, 24, .inl s_heldColumns)), (s_heldSixties_a, .inl (cI, 24, .inl s_heldSixties)), (s_certain_a, .inl (cI, 24, .inl s_certain))] H1 := kjoin hnd rfl hP hP1 hk1 [0, 1, 2, 3, 4] rfl [(true, 0), (true, 1), (true, 2), (true, 3), (true, 4)] rfl rfl
    clear hP1 hk1
    generalize H1 = H at hP hS ⊢
    refine lv_if_eq (tgt := 32) hx hb dX0_nextReading_13 (by decide) (fun c3 => ?_) (fun c3 => ?_)
    · replace h := md_t c3 h
      exact hE u2.2.1 u2.2.2.1 u2.2.2.2 h _ _ hP hS ls (lv_sub hl [] rfl)
    replace h := md_f c3 h
    refine lv_aload_n hx hb dX0_nextReading_16 rfl (lv_at hl 0 rfl) ?_
    obtain ⟨u4, hu4, h⟩ := md_b h
    refine kV C (ctX0_strayRow l  hu4) gX0_nextReading_X0_strayRow rfl kdvX0_strayRow ⟨rfl, rfl⟩ ⟨by decide, by decide⟩ kW_blind (va_recv hK hP (ci := 0) (q0 := 0) rfl rfl) (kW_use hK (hP.sub (ws' := [(so, .inr (0, [.ref s_heldRows_a, .ref s_heldColumns_a, .ref s_heldSixties_a, .ref s_certain_a, .int s_heldCount, .int s_rows, .int u2.2.1, .int u2.2.2.1, .int u2.2.2.2])), (s_heldRows_a, .inl (cI, 24, .inl s_heldRows)), (s_heldColumns_a, .inl (cI, 24, .inl s_heldColumns)), (s_heldSixties_a, .inl (cI, 24, .inl s_heldSixties)), (s_certain_a, .inl (cI, 24, .inl s_certain))]) [0, 1, 2, 3, 4] rfl) (kL_at hLz hS (fun _ q => q.elim))) rfl hl [] rfl (Nat.le_of_ble_eq_true rfl) dX0_nextReading_17 ⟨by decide, by decide⟩ ?_
    refine lv_iconst (v := -1) hx hb dX0_nextReading_20 (by decide) ?_
    refine lv_icmp_ne (tgt := 26) hx hb dX0_nextReading_21 (by decide) (fun c5 => ?_) (fun c5 => ?_)
    · replace h := md_f c5 h
      obtain ⟨x1_6, ex1_6⟩ : ∃ y : Int32, y = (x1 + (1 : Int32)) := ⟨_, rfl⟩
      replace h := md_le ex1_6 h
      refine lv_iinc (v := x1_6) (lv' := [(1, .int x1_6), (0, .ref so)]) hx hb dX0_nextReading_26 hl (k := 1) rfl (by rw [ex1_6]; rfl) (by decide) rfl (fun ls hl => ?_)
      refine lv_goto (tgt := 2) hx hb dX0_nextReading_29 (by decide) ?_
      exact ih x1_6 u2.2.1 u2.2.2.1 u2.2.2.2 h _ _ hP hS ls (lv_sub hl [1, 0] rfl)
    replace h := md_t c5 h
    refine lv_iconst (v := 1) hx hb dX0_nextReading_24 (by decide) ?_
    exact hQ (1 : Int32) u2.2.1 u2.2.2.1 u2.2.2.2 H locs 25 ls (by decide) h hP hS dX0_nextReading_25
def mX0_nextReading (s_heldRows : Nat → Int32) (s_heldColumns : Nat → Int32) (s_heldSixties : Nat → Int32) (s_heldCount : Int32) (s_rows : Int32) (s_kind : Int32) (s_n : Int32) (s_first : Int32) : Option (Int32 × Int32 × Int32 × Int32) := (mlX0_nextReading_2 s_heldRows s_heldColumns s_heldSixties s_heldCount s_rows (fun (s_kind_32 : Int32) (s_n_32 : Int32) (s_first_32 : Int32) => (some ((0 : Int32), s_kind_32, s_n_32, s_first_32))) kN (0 : Int32) s_kind s_n s_first)
set_option maxHeartbeats 4000000 in
set_option maxRecDepth 100000 in
theorem bX0_nextReading {p : Program} {l : Launch} {e : Env} {s : State} {m : MethodId} {args : Array Value} {below : List Frame} {meth : Method} {c : Code} {Q : State → Prop} (C : kc p s m args meth c cX0_nextReading 2 RX0 yX0_nextReading.name wsX0_nextReading (some .boolean)) {D : va_G} {cI cT : ClassId} {so s_heldRows_a s_heldColumns_a s_heldSixties_a s_certain_a : Nat} {aL : Nat × Nat} (hK : va_K D vwCl (kTy cI cT) s) (hLz : kLz aL (fun q => q ∈ ([so, s_heldRows_a, s_heldColumns_a, s_heldSixties_a, s_certain_a] : List Nat)) s s.heap) (hnd : ([so, s_heldRows_a, s_heldColumns_a, s_heldSixties_a, s_certain_a] : List Nat).Nodup) (s_heldRows : Nat → Int32) (s_heldColumns : Nat → Int32) (s_heldSixties : Nat → Int32) (s_certain : Nat → Int32) (s_heldCount : Int32) (s_rows : Int32) (s_kind : Int32) (s_n : Int32) (s_first : Int32) (res : (Int32 × Int32 × Int32 × Int32)) (hQ : ∀ (v : Int32) (s_kind : Int32) (s_n : Int32) (s_first : Int32) (H : Heap) (locs : List Loc) (pc : Nat) (ls : Array Slot), v = 0 ∨ v = 1 → some (v, s_kind, s_n, s_first) = some res → va_P D vwCl [(so, .inr (0, [.ref s_heldRows_a, .ref s_heldColumns_a, .ref s_heldSixties_a, .ref s_certain_a, .int s_heldCount, .int s_rows, .int s_kind, .int s_n, .int s_first])), (s_heldRows_a, .inl (cI, 24, .inl s_heldRows)), (s_heldColumns_a, .inl (cI, 24, .inl s_heldColumns)), (s_heldSixties_a, .inl (cI, 24, .inl s_heldSixties)), (s_certain_a, .inl (cI, 24, .inl s_certain))] H → va_S (fun q => q ∈ ([so, s_heldRows_a, s_heldColumns_a, s_heldSixties_a, s_certain_a] : List Nat)) s.heap H locs → decode cX0_nextReading pc = .ok (.ireturn, 1) → W p l e rmX0_nextReading s m args below meth c H locs 0 0 Q (F0 m pc ls [.int v])) : mX0_nextReading s_heldRows s_heldColumns s_heldSixties s_heldCount s_rows s_kind s_n s_first = some res → ∀ (H : Heap) (locs : List Loc), va_P D vwCl [(so, .inr (0, [.ref s_heldRows_a, .ref s_heldColumns_a, .ref s_heldSixties_a, .ref s_certain_a, .int s_heldCount, .int s_rows, .int s_kind, .int s_n, .int s_first])), (s_heldRows_a, .inl (cI, 24, .inl s_heldRows)), (s_heldColumns_a, .inl (cI, 24, .inl s_heldColumns)), (s_heldSixties_a, .inl (cI, 24, .inl s_heldSixties)), (s_certain_a, .inl (cI, 24, .inl s_certain))] H → va_S (fun q => q ∈ ([so, s_heldRows_a, s_heldColumns_a, s_heldSixties_a, s_certain_a] : List Nat)) s.heap H locs → ∀ (ls : Array Slot), lv_has ls 2 [(0, .ref so)] → W p l e rmX0_nextReading s m args below meth c H locs 0 0 Q (F0 m 0 ls []) := by
  intro h H locs hP hS ls hl
  have C0 := C
  obtain ⟨hx, hb, hml, hown, hts, hr, hlk, hnm⟩ := C0
  rw [mX0_nextReading] at h
  refine lv_iconst (v := 0) hx hb dX0_nextReading_0 (by decide) ?_
  refine lv_istore_n (lv' := [(1, .int (0 : Int32)), (0, .ref so)]) hx hb dX0_nextReading_1 rfl hl (by decide) rfl (fun ls hl => ?_)
  refine lX0_nextReading_2 (so := so) (s_heldRows_a := s_heldRows_a) (s_heldColumns_a := s_heldColumns_a) (s_heldSixties_a := s_heldSixties_a) (s_certain_a := s_certain_a) C hK hLz hnd s_heldRows s_heldColumns s_heldSixties s_certain s_heldCount s_rows res hQ _ (fun s_kind_32 s_n_32 s_first_32 h H locs hP hS ls hl => ?_) kN (0 : Int32) s_kind s_n s_first h _ _ hP hS ls (lv_sub hl [1, 0] rfl)
  refine lv_iconst (v := 0) hx hb dX0_nextReading_32 (by decide) ?_
  exact hQ (0 : Int32) s_kind_32 s_n_32 s_first_32 H locs 33 ls (by decide) h hP hS dX0_nextReading_33
set_option maxHeartbeats 4000000 in
theorem ctX0_nextReading (l : Launch) {D : va_G} {cI cT : ClassId} {so s_heldRows_a s_heldColumns_a s_heldSixties_a s_certain_a : Nat} {aL : Nat × Nat} {s_heldRows : Nat → Int32} {s_heldColumns : Nat → Int32} {s_heldSixties : Nat → Int32} {s_certain : Nat → Int32} {s_heldCount : Int32} {s_rows : Int32} {s_kind : Int32} {s_n : Int32} {s_first : Int32} {res : (Int32 × Int32 × Int32 × Int32)} (hnd : ([so, s_heldRows_a, s_heldColumns_a, s_heldSixties_a, s_certain_a] : List Nat).Nodup) (hm : mX0_nextReading s_heldRows s_heldColumns s_heldSixties s_heldCount s_rows s_kind s_n s_first = some res) : Met l yX0_nextReading wsX0_nextReading rmX0_nextReading (va_Pc [.ref so] (kW D cI cT [(so, .inr (0, [.ref s_heldRows_a, .ref s_heldColumns_a, .ref s_heldSixties_a, .ref s_certain_a, .int s_heldCount, .int s_rows, .int s_kind, .int s_n, .int s_first])), (s_heldRows_a, .inl (cI, 24, .inl s_heldRows)), (s_heldColumns_a, .inl (cI, 24, .inl s_heldColumns)), (s_heldSixties_a, .inl (cI, 24, .inl s_heldSixties)), (s_certain_a, .inl (cI, 24, .inl s_certain))] (some aL) (fun q => q ∈ ([so, s_heldRows_a, s_heldColumns_a, s_heldSixties_a, s_certain_a] : List Nat)))) (kX (some (.int res.1)) D [(so, .inr (0, [.ref s_heldRows_a, .ref s_heldColumns_a, .ref s_heldSixties_a, .ref s_certain_a, .int s_heldCount, .int s_rows, .int res.2.1, .int res.2.2.1, .int res.2.2.2])), (s_heldRows_a, .inl (cI, 24, .inl s_heldRows)), (s_heldColumns_a, .inl (cI, 24, .inl s_heldColumns)), (s_heldSixties_a, .inl (cI, 24, .inl s_heldSixties)), (s_certain_a, .inl (cI, 24, .inl s_certain))] (fun q => q ∈ ([so, s_heldRows_a, s_heldColumns_a, s_heldSixties_a, s_certain_a] : List Nat))) 0 0 (fun q => q ∈ ([so, s_heldRows_a, s_heldColumns_a, s_heldSixties_a, s_certain_a] : List Nat)) :=
  km (by decide) rfl (Nat.le_of_ble_eq_true rfl) (fun p e s m below meth c ls C hB hl => bX0_nextReading C hB.1 (hB.2.2 aL rfl) hnd s_heldRows s_heldColumns s_heldSixties s_certain s_heldCount s_rows s_kind s_n s_first res (fun v s_kind1 s_n1 s_first1 H locs pc ls hz h hP hS hd => by obtain rfl := Option.some.inj h; exact kx_z C hz hP hS hd) hm s.heap [] hB.2.1 va_S.rf ls hl)
theorem wm_X0_code_0 : Cond.fieldLink RX0 33 "SixtyTablet$Search" "kind" "I" ∈ wsX0_code := by decide +kernel
theorem wm_X0_code_1 : Cond.fieldLink RX0 36 "SixtyTablet$Search" "n" "I" ∈ wsX0_code := by decide +kernel
theorem wm_X0_code_2 : Cond.fieldLink RX0 39 "SixtyTablet$Search" "first" "I" ∈ wsX0_code := by decide +kernel
theorem wi_X0_code_X0 : ∀ w ∈ wsX00, w ∈ wsX0_code := by decide +kernel
theorem kdvX0_code : yX0_code.cls = RX0 ∧ yX0_code.cls ≠ "java/lang/invoke/MethodHandle" ∧ yX0_code.cls ≠ "java/lang/invoke/VarHandle" ∧ (parseMethodDescriptor yX0_code.desc).map (fun d => d.parameters.length) = some 0 := by decide +kernel
abbrev rmX0_code : Room := { frames := 0, cells := 0, slots := 0, locals := 0 }
def mX0_code (s_kind : Int32) (s_n : Int32) (s_first : Int32) : Option Int32 := (some ((((10000 : Int32) * s_kind) + ((100 : Int32) * s_n)) + s_first))
set_option maxHeartbeats 4000000 in
set_option maxRecDepth 100000 in
theorem bX0_code {p : Program} {l : Launch} {e : Env} {s : State} {m : MethodId} {args : Array Value} {below : List Frame} {meth : Method} {c : Code} {Q : State → Prop} (C : kc p s m args meth c cX0_code 1 RX0 yX0_code.name wsX0_code (some .int)) {D : va_G} {cI cT : ClassId} {so s_heldRows_a s_heldColumns_a s_heldSixties_a s_certain_a : Nat} (hK : va_K D vwCl (kTy cI cT) s) (s_heldRows : Nat → Int32) (s_heldColumns : Nat → Int32) (s_heldSixties : Nat → Int32) (s_certain : Nat → Int32) (s_heldCount : Int32) (s_rows : Int32) (s_kind : Int32) (s_n : Int32) (s_first : Int32) (hP : va_P D vwCl [(so, .inr (0, [.ref s_heldRows_a, .ref s_heldColumns_a, .ref s_heldSixties_a, .ref s_certain_a, .int s_heldCount, .int s_rows, .int s_kind, .int s_n, .int s_first])), (s_heldRows_a, .inl (cI, 24, .inl s_heldRows)), (s_heldColumns_a, .inl (cI, 24, .inl s_heldColumns)), (s_heldSixties_a, .inl (cI, 24, .inl s_heldSixties)), (s_certain_a, .inl (cI, 24, .inl s_certain))] s.heap) (res : Int32) (hQ : ∀ (v : Int32) (pc : Nat) (ls : Array Slot), some v = some res → decode cX0_code pc = .ok (.ireturn, 1) → W p l e rmX0_code s m args below meth c s.heap [] 0 0 Q (F0 m pc ls [.int v])) : mX0_code s_kind s_n s_first = some res → ∀ (ls : Array Slot), lv_has ls 1 [(0, .ref so)] → W p l e rmX0_code s m args below meth c s.heap [] 0 0 Q (F0 m 0 ls []) := by
  intro h ls hl
  have C0 := C
  obtain ⟨hx, hb, hml, hown, hts, hr, hlk, hnm⟩ := C0
  rw [mX0_code] at h
  refine lv_sipush (v := 10000) hx hb dX0_code_0 (by decide) ?_
  refine lv_aload_n hx hb dX0_code_3 rfl (lv_at hl 0 rfl) ?_
  refine va_get (D := D) (ci := 0) (v := .int s_kind) (C := RX0) (T := TX0) (N := 9) hx hb hts wi_X0_code_X0 hown hK hP 0 rfl rfl 6 (by decide) (hts _ wm_X0_code_0) (fun _ h9 => h9) rfl dX0_code_4 ?_
  refine lv_imul hx hb dX0_code_7 ?_
  refine lv_bipush (v := 100) hx hb dX0_code_8 (by decide) ?_
  refine lv_aload_n hx hb dX0_code_10 rfl (lv_at hl 0 rfl) ?_
  refine va_get (D := D) (ci := 0) (v := .int s_n) (C := RX0) (T := TX0) (N := 9) hx hb hts wi_X0_code_X0 hown hK hP 0 rfl rfl 7 (by decide) (hts _ wm_X0_code_1) (fun _ h9 => h9) rfl dX0_code_11 ?_
  refine lv_imul hx hb dX0_code_14 ?_
  refine lv_iadd hx hb dX0_code_15 ?_
  refine lv_aload_n hx hb dX0_code_16 rfl (lv_at hl 0 rfl) ?_
  refine va_get (D := D) (ci := 0) (v := .int s_first) (C := RX0) (T := TX0) (N := 9) hx hb hts wi_X0_code_X0 hown hK hP 0 rfl rfl 8 (by decide) (hts _ wm_X0_code_2) (fun _ h9 => h9) rfl dX0_code_17 ?_
  refine lv_iadd hx hb dX0_code_20 ?_
  exact hQ ((((10000 : Int32) * s_kind) + ((100 : Int32) * s_n)) + s_first) 21 ls h dX0_code_21
set_option maxHeartbeats 4000000 in
theorem ctX0_code (l : Launch) {D : va_G} {cI cT : ClassId} {so s_heldRows_a s_heldColumns_a s_heldSixties_a s_certain_a : Nat} {s_heldRows : Nat → Int32} {s_heldColumns : Nat → Int32} {s_heldSixties : Nat → Int32} {s_certain : Nat → Int32} {s_heldCount : Int32} {s_rows : Int32} {s_kind : Int32} {s_n : Int32} {s_first : Int32} {res : Int32} (hm : mX0_code s_kind s_n s_first = some res) : Met l yX0_code wsX0_code rmX0_code (va_Pc [.ref so] (kW D cI cT [(so, .inr (0, [.ref s_heldRows_a, .ref s_heldColumns_a, .ref s_heldSixties_a, .ref s_certain_a, .int s_heldCount, .int s_rows, .int s_kind, .int s_n, .int s_first])), (s_heldRows_a, .inl (cI, 24, .inl s_heldRows)), (s_heldColumns_a, .inl (cI, 24, .inl s_heldColumns)), (s_heldSixties_a, .inl (cI, 24, .inl s_heldSixties)), (s_certain_a, .inl (cI, 24, .inl s_certain))] none (fun _ => False))) (kR (.int res)) 0 0 (fun _ => False) :=
  km (by decide) rfl (Nat.le_of_ble_eq_true rfl) (fun p e s m below meth c ls C hB hl => bX0_code C hB.1 s_heldRows s_heldColumns s_heldSixties s_certain s_heldCount s_rows s_kind s_n s_first hB.2.1 res (fun v pc ls h hd => kr_i C h hd) hm ls hl)
theorem wm_X0_takeAll_0 : Cond.fieldLink RX0 28 "SixtyTablet$Search" "rows" "I" ∈ wsX0_takeAll := by decide +kernel
theorem wm_X0_takeAll_1 : Cond.fieldLink RX0 21 "SixtyTablet$Search" "certain" "[I" ∈ wsX0_takeAll := by decide +kernel
theorem wi_X0_takeAll_X0 : ∀ w ∈ wsX00, w ∈ wsX0_takeAll := by decide +kernel
theorem kdvX0_takeAll : yX0_takeAll.cls = RX0 ∧ yX0_takeAll.cls ≠ "java/lang/invoke/MethodHandle" ∧ yX0_takeAll.cls ≠ "java/lang/invoke/VarHandle" ∧ (parseMethodDescriptor yX0_takeAll.desc).map (fun d => d.parameters.length) = some 0 := by decide +kernel
abbrev rmX0_takeAll : Room := { frames := 3, cells := 0, slots := 0, locals := 66 }
def mlX0_takeAll_2 (s_rows : Int32) (s_kind : Int32) (s_n : Int32) (s_first : Int32) (kE : (Nat → Int32) → Option (Nat → Int32)) : Nat → Int32 → (Nat → Int32) → Option (Nat → Int32)
  | 0, _, _ => none
  | n + 1, x1, s_certain => (if (s_rows * (3 : Int32)) ≤ x1 then (kE s_certain) else (if (24 : Int32) ≤ x1 then (kE s_certain) else (Option.bind (mX0_sixtyHere s_kind s_n s_first (x1 / (3 : Int32)) (x1 - x1 / (3 : Int32) * (3 : Int32))) (fun u3 => (if x1 < 0 ∨ 24 ≤ (Int32.toNatClampNeg x1) then none else (md_let (upd s_certain (Int32.toNatClampNeg x1) u3) (fun (s_certain_4 : Nat → Int32) => (md_let (x1 + (1 : Int32)) (fun (x1_5 : Int32) => (mlX0_takeAll_2 s_rows s_kind s_n s_first kE n x1_5 s_certain_4))))))))))
set_option maxHeartbeats 4000000 in
set_option maxRecDepth 100000 in
theorem lX0_takeAll_2 {p : Program} {l : Launch} {e : Env} {s : State} {m : MethodId} {args : Array Value} {below : List Frame} {meth : Method} {c : Code} {Q : State → Prop} (C : kc p s m args meth c cX0_takeAll 2 RX0 yX0_takeAll.name wsX0_takeAll none) {D : va_G} {cI cT : ClassId} {so s_heldRows_a s_heldColumns_a s_heldSixties_a s_certain_a : Nat} {aL : Nat × Nat} (hK : va_K D vwCl (kTy cI cT) s) (hLz : kLz aL (fun q => q ∈ ([so, s_heldRows_a, s_heldColumns_a, s_heldSixties_a, s_certain_a] : List Nat)) s s.heap) (hnd : ([so, s_heldRows_a, s_heldColumns_a, s_heldSixties_a, s_certain_a] : List Nat).Nodup) (s_heldRows : Nat → Int32) (s_heldColumns : Nat → Int32) (s_heldSixties : Nat → Int32) (s_heldCount : Int32) (s_rows : Int32) (s_kind : Int32) (s_n : Int32) (s_first : Int32) (res : (Nat → Int32)) (hQ : ∀ (s_certain : Nat → Int32) (H : Heap) (locs : List Loc) (pc : Nat) (ls : Array Slot), some s_certain = some res → va_P D vwCl [(so, .inr (0, [.ref s_heldRows_a, .ref s_heldColumns_a, .ref s_heldSixties_a, .ref s_certain_a, .int s_heldCount, .int s_rows, .int s_kind, .int s_n, .int s_first])), (s_heldRows_a, .inl (cI, 24, .inl s_heldRows)), (s_heldColumns_a, .inl (cI, 24, .inl s_heldColumns)), (s_heldSixties_a, .inl (cI, 24, .inl s_heldSixties)), (s_certain_a, .inl (cI, 24, .inl s_certain))] H → va_S (fun q => q ∈ ([so, s_heldRows_a, s_heldColumns_a, s_heldSixties_a, s_certain_a] : List Nat)) s.heap H locs → decode cX0_takeAll pc = .ok (.return_, 1) → W p l e rmX0_takeAll s m args below meth c H locs 0 0 Q (F0 m pc ls [])) (kE : (Nat → Int32) → Option (Nat → Int32)) (hE : ∀ (s_certain : Nat → Int32), kE s_certain = some res → ∀ (H : Heap) (locs : List Loc), va_P D vwCl [(so, .inr (0, [.ref s_heldRows_a, .ref s_heldColumns_a, .ref s_heldSixties_a, .ref s_certain_a, .int s_heldCount, .int s_rows, .int s_kind, .int s_n, .int s_first])), (s_heldRows_a, .inl (cI, 24, .inl s_heldRows)), (s_heldColumns_a, .inl (cI, 24, .inl s_heldColumns)), (s_heldSixties_a, .inl (cI, 24, .inl s_heldSixties)), (s_certain_a, .inl (cI, 24, .inl s_certain))] H → va_S (fun q => q ∈ ([so, s_heldRows_a, s_heldColumns_a, s_heldSixties_a, s_certain_a] : List Nat)) s.heap H locs → ∀ (ls : Array Slot), lv_has ls 2 [] → W p l e rmX0_takeAll s m args below meth c H locs 0 0 Q (F0 m 40 ls [])) : ∀ (n : Nat), ∀ (x1 : Int32) (s_certain : Nat → Int32), mlX0_takeAll_2 s_rows s_kind s_n s_first kE n x1 s_certain = some res → ∀ (H : Heap) (locs : List Loc), va_P D vwCl [(so, .inr (0, [.ref s_heldRows_a, .ref s_heldColumns_a, .ref s_heldSixties_a, .ref s_certain_a, .int s_heldCount, .int s_rows, .int s_kind, .int s_n, .int s_first])), (s_heldRows_a, .inl (cI, 24, .inl s_heldRows)), (s_heldColumns_a, .inl (cI, 24, .inl s_heldColumns)), (s_heldSixties_a, .inl (cI, 24, .inl s_heldSixties)), (s_certain_a, .inl (cI, 24, .inl s_certain))] H → va_S (fun q => q ∈ ([so, s_heldRows_a, s_heldColumns_a, s_heldSixties_a, s_certain_a] : List Nat)) s.heap H locs → ∀ (ls : Array Slot), lv_has ls 2 [(0, .ref so), (1, .int x1)] → W p l e rmX0_takeAll s m args below meth c H locs 0 0 Q (F0 m 2 ls []) := by
  have C0 := C
  obtain ⟨hx, hb, hml, hown, hts, hr, hlk, hnm⟩ := C0
  intro n
  induction n with
  | zero => intro _ _ h; exact md_x h
  | succ n ih =>
    intro x1 s_certain h H locs hP hS ls hl
    rw [mlX0_takeAll_2] at h
    refine lv_iload_n hx hb dX0_takeAll_2 rfl (lv_at hl 1 rfl) ?_
    refine lv_aload_n hx hb dX0_takeAll_3 rfl (lv_at hl 0 rfl) ?_
    refine va_get (D := D) (ci := 0) (v := .int s_rows) (C := RX0) (T := TX0) (N := 9) hx hb hts wi_X0_takeAll_X0 hown hK hP 0 rfl rfl 5 (by decide) (hts _ wm_X0_takeAll_0) (fun _ h9 => h9) rfl dX0_takeAll_4 ?_
    refine lv_iconst (v := 3) hx hb dX0_takeAll_7 (by decide) ?_
    refine lv_imul hx hb dX0_takeAll_8 ?_
    refine lv_icmp_ge (tgt := 40) hx hb dX0_takeAll_9 (by decide) (fun c1 => ?_) (fun c1 => ?_)
    · replace h := md_t c1 h
      exact hE s_certain h _ _ hP hS ls (lv_sub hl [] rfl)
    replace h := md_f c1 h
    refine lv_iload_n hx hb dX0_takeAll_12 rfl (lv_at hl 1 rfl) ?_
    refine lv_bipush (v := 24) hx hb dX0_takeAll_13 (by decide) ?_
    refine lv_icmp_ge (tgt := 40) hx hb dX0_takeAll_15 (by decide) (fun c2 => ?_) (fun c2 => ?_)
    · replace h := md_t c2 h
      exact hE s_certain h _ _ hP hS ls (lv_sub hl [] rfl)
    replace h := md_f c2 h
    refine lv_aload_n hx hb dX0_takeAll_18 rfl (lv_at hl 0 rfl) ?_
    refine va_get (D := D) (ci := 0) (v := .ref s_certain_a) (C := RX0) (T := TX0) (N := 9) hx hb hts wi_X0_takeAll_X0 hown hK hP 0 rfl rfl 3 (by decide) (hts _ wm_X0_takeAll_1) (fun _ h9 => h9) rfl dX0_takeAll_19 ?_
    refine lv_iload_n hx hb dX0_takeAll_22 rfl (lv_at hl 1 rfl) ?_
    refine lv_aload_n hx hb dX0_takeAll_23 rfl (lv_at hl 0 rfl) ?_
    refine lv_iload_n hx hb dX0_takeAll_24 rfl (lv_at hl 1 rfl) ?_
    refine lv_iconst (v := 3) hx hb dX0_takeAll_25 (by decide) ?_
    refine lv_idiv hx hb dX0_takeAll_26 (by decide) ?_
    refine lv_iload_n hx hb dX0_takeAll_27 rfl (lv_at hl 1 rfl) ?_
    refine lv_iconst (v := 3) hx hb dX0_takeAll_28 (by decide) ?_
    refine lv_irem hx hb dX0_takeAll_29 (by decide) ?_
    obtain ⟨u3, hu3, h⟩ := md_b h
    refine kV C (ctX0_sixtyHere l  hu3) gX0_takeAll_X0_sixtyHere rfl kdvX0_sixtyHere ⟨rfl, rfl⟩ ⟨by decide, by decide⟩ kW_blind (va_recv hK hP (ci := 0) (q0 := 0) rfl rfl) (kW_use hK (hP.sub (ws' := [(so, .inr (0, [.ref s_heldRows_a, .ref s_heldColumns_a, .ref s_heldSixties_a, .ref s_certain_a, .int s_heldCount, .int s_rows, .int s_kind, .int s_n, .int s_first])), (s_heldRows_a, .inl (cI, 24, .inl s_heldRows)), (s_heldColumns_a, .inl (cI, 24, .inl s_heldColumns)), (s_heldSixties_a, .inl (cI, 24, .inl s_heldSixties)), (s_certain_a, .inl (cI, 24, .inl s_certain))]) [0, 1, 2, 3, 4] rfl) (kL_at hLz hS (fun _ q => q.elim))) rfl hl [.int x1, .ref s_certain_a] rfl (Nat.le_of_ble_eq_true rfl) dX0_takeAll_30 ⟨by decide, by decide⟩ ?_
    obtain ⟨hin4, h⟩ := md_g h
    refine va_iast hx hb hK hP (kD hnd rfl) hS 4 0 rfl rfl hin4 dX0_takeAll_33 (fun H locs hP _ hS => ?_)
    have hP : va_P D vwCl [(so, .inr (0, [.ref s_heldRows_a, .ref s_heldColumns_a, .ref s_heldSixties_a, .ref s_certain_a, .int s_heldCount, .int s_rows, .int s_kind, .int s_n, .int s_first])), (s_heldRows_a, .inl (cI, 24, .inl s_heldRows)), (s_heldColumns_a, .inl (cI, 24, .inl s_heldColumns)), (s_heldSixties_a, .inl (cI, 24, .inl s_heldSixties)), (s_certain_a, .inl (cI, 24, .inl (upd s_certain (Int32.toNatClampNeg x1) u3)))] H := hP
    obtain ⟨s_certain_4, es_certain_4⟩ : ∃ y : Nat → Int32, y = (upd s_certain (Int32.toNatClampNeg x1) u3) := ⟨_, rfl⟩
    replace h := md_le es_certain_4 h
    rw [← es_certain_4] at hP
    obtain ⟨x1_5, ex1_5⟩ : ∃ y : Int32, y = (x1 + (1 : Int32)) := ⟨_, rfl⟩
    replace h := md_le ex1_5 h
    refine lv_iinc (v := x1_5) (lv' := [(1, .int x1_5), (0, .ref so)]) hx hb dX0_takeAll_34 hl (k := 1) rfl (by rw [ex1_5]; rfl) (by decide) rfl (fun ls hl => ?_)
    refine lv_goto (tgt := 2) hx hb dX0_takeAll_37 (by decide) ?_
    exact ih x1_5 s_certain_4 h _ _ hP hS ls (lv_sub hl [1, 0] rfl)
def mX0_takeAll (s_certain : Nat → Int32) (s_rows : Int32) (s_kind : Int32) (s_n : Int32) (s_first : Int32) : Option (Nat → Int32) := (mlX0_takeAll_2 s_rows s_kind s_n s_first (fun (s_certain_40 : Nat → Int32) => (some s_certain_40)) kN (0 : Int32) s_certain)
set_option maxHeartbeats 4000000 in
set_option maxRecDepth 100000 in
theorem bX0_takeAll {p : Program} {l : Launch} {e : Env} {s : State} {m : MethodId} {args : Array Value} {below : List Frame} {meth : Method} {c : Code} {Q : State → Prop} (C : kc p s m args meth c cX0_takeAll 2 RX0 yX0_takeAll.name wsX0_takeAll none) {D : va_G} {cI cT : ClassId} {so s_heldRows_a s_heldColumns_a s_heldSixties_a s_certain_a : Nat} {aL : Nat × Nat} (hK : va_K D vwCl (kTy cI cT) s) (hLz : kLz aL (fun q => q ∈ ([so, s_heldRows_a, s_heldColumns_a, s_heldSixties_a, s_certain_a] : List Nat)) s s.heap) (hnd : ([so, s_heldRows_a, s_heldColumns_a, s_heldSixties_a, s_certain_a] : List Nat).Nodup) (s_heldRows : Nat → Int32) (s_heldColumns : Nat → Int32) (s_heldSixties : Nat → Int32) (s_certain : Nat → Int32) (s_heldCount : Int32) (s_rows : Int32) (s_kind : Int32) (s_n : Int32) (s_first : Int32) (res : (Nat → Int32)) (hQ : ∀ (s_certain : Nat → Int32) (H : Heap) (locs : List Loc) (pc : Nat) (ls : Array Slot), some s_certain = some res → va_P D vwCl [(so, .inr (0, [.ref s_heldRows_a, .ref s_heldColumns_a, .ref s_heldSixties_a, .ref s_certain_a, .int s_heldCount, .int s_rows, .int s_kind, .int s_n, .int s_first])), (s_heldRows_a, .inl (cI, 24, .inl s_heldRows)), (s_heldColumns_a, .inl (cI, 24, .inl s_heldColumns)), (s_heldSixties_a, .inl (cI, 24, .inl s_heldSixties)), (s_certain_a, .inl (cI, 24, .inl s_certain))] H → va_S (fun q => q ∈ ([so, s_heldRows_a, s_heldColumns_a, s_heldSixties_a, s_certain_a] : List Nat)) s.heap H locs → decode cX0_takeAll pc = .ok (.return_, 1) → W p l e rmX0_takeAll s m args below meth c H locs 0 0 Q (F0 m pc ls [])) : mX0_takeAll s_certain s_rows s_kind s_n s_first = some res → ∀ (H : Heap) (locs : List Loc), va_P D vwCl [(so, .inr (0, [.ref s_heldRows_a, .ref s_heldColumns_a, .ref s_heldSixties_a, .ref s_certain_a, .int s_heldCount, .int s_rows, .int s_kind, .int s_n, .int s_first])), (s_heldRows_a, .inl (cI, 24, .inl s_heldRows)), (s_heldColumns_a, .inl (cI, 24, .inl s_heldColumns)), (s_heldSixties_a, .inl (cI, 24, .inl s_heldSixties)), (s_certain_a, .inl (cI, 24, .inl s_certain))] H → va_S (fun q => q ∈ ([so, s_heldRows_a, s_heldColumns_a, s_heldSixties_a, s_certain_a] : List Nat)) s.heap H locs → ∀ (ls : Array Slot), lv_has ls 2 [(0, .ref so)] → W p l e rmX0_takeAll s m args below meth c H locs 0 0 Q (F0 m 0 ls []) := by
  intro h H locs hP hS ls hl
  have C0 := C
  obtain ⟨hx, hb, hml, hown, hts, hr, hlk, hnm⟩ := C0
  rw [mX0_takeAll] at h
  refine lv_iconst (v := 0) hx hb dX0_takeAll_0 (by decide) ?_
  refine lv_istore_n (lv' := [(1, .int (0 : Int32)), (0, .ref so)]) hx hb dX0_takeAll_1 rfl hl (by decide) rfl (fun ls hl => ?_)
  refine lX0_takeAll_2 (so := so) (s_heldRows_a := s_heldRows_a) (s_heldColumns_a := s_heldColumns_a) (s_heldSixties_a := s_heldSixties_a) (s_certain_a := s_certain_a) C hK hLz hnd s_heldRows s_heldColumns s_heldSixties s_heldCount s_rows s_kind s_n s_first res hQ _ (fun s_certain_40 h H locs hP hS ls hl => ?_) kN (0 : Int32) s_certain h _ _ hP hS ls (lv_sub hl [1, 0] rfl)
  exact hQ s_certain_40 H locs 40 ls h hP hS dX0_takeAll_40
set_option maxHeartbeats 4000000 in
theorem ctX0_takeAll (l : Launch) {D : va_G} {cI cT : ClassId} {so s_heldRows_a s_heldColumns_a s_heldSixties_a s_certain_a : Nat} {aL : Nat × Nat} {s_heldRows : Nat → Int32} {s_heldColumns : Nat → Int32} {s_heldSixties : Nat → Int32} {s_certain : Nat → Int32} {s_heldCount : Int32} {s_rows : Int32} {s_kind : Int32} {s_n : Int32} {s_first : Int32} {res : (Nat → Int32)} (hnd : ([so, s_heldRows_a, s_heldColumns_a, s_heldSixties_a, s_certain_a] : List Nat).Nodup) (hm : mX0_takeAll s_certain s_rows s_kind s_n s_first = some res) : Met l yX0_takeAll wsX0_takeAll rmX0_takeAll (va_Pc [.ref so] (kW D cI cT [(so, .inr (0, [.ref s_heldRows_a, .ref s_heldColumns_a, .ref s_heldSixties_a, .ref s_certain_a, .int s_heldCount, .int s_rows, .int s_kind, .int s_n, .int s_first])), (s_heldRows_a, .inl (cI, 24, .inl s_heldRows)), (s_heldColumns_a, .inl (cI, 24, .inl s_heldColumns)), (s_heldSixties_a, .inl (cI, 24, .inl s_heldSixties)), (s_certain_a, .inl (cI, 24, .inl s_certain))] (some aL) (fun q => q ∈ ([so, s_heldRows_a, s_heldColumns_a, s_heldSixties_a, s_certain_a] : List Nat)))) (kX none D [(so, .inr (0, [.ref s_heldRows_a, .ref s_heldColumns_a, .ref s_heldSixties_a, .ref s_certain_a, .int s_heldCount, .int s_rows, .int s_kind, .int s_n, .int s_first])), (s_heldRows_a, .inl (cI, 24, .inl s_heldRows)), (s_heldColumns_a, .inl (cI, 24, .inl s_heldColumns)), (s_heldSixties_a, .inl (cI, 24, .inl s_heldSixties)), (s_certain_a, .inl (cI, 24, .inl res))] (fun q => q ∈ ([so, s_heldRows_a, s_heldColumns_a, s_heldSixties_a, s_certain_a] : List Nat))) 0 0 (fun q => q ∈ ([so, s_heldRows_a, s_heldColumns_a, s_heldSixties_a, s_certain_a] : List Nat)) :=
  km (by decide) rfl (Nat.le_of_ble_eq_true rfl) (fun p e s m below meth c ls C hB hl => bX0_takeAll C hB.1 (hB.2.2 aL rfl) hnd s_heldRows s_heldColumns s_heldSixties s_certain s_heldCount s_rows s_kind s_n s_first res (fun s_certain1 H locs pc ls h hP hS hd => by obtain rfl := Option.some.inj h; exact kx_v C hP hS hd) hm s.heap [] hB.2.1 va_S.rf ls hl)
theorem wm_X0_keepAgreed_0 : Cond.fieldLink RX0 28 "SixtyTablet$Search" "rows" "I" ∈ wsX0_keepAgreed := by decide +kernel
theorem wm_X0_keepAgreed_1 : Cond.fieldLink RX0 21 "SixtyTablet$Search" "certain" "[I" ∈ wsX0_keepAgreed := by decide +kernel
theorem wm_X0_keepAgreed_2 : Cond.fieldLink RX0 24 "SixtyTablet$Search" "heldCount" "I" ∈ wsX0_keepAgreed := by decide +kernel
theorem wi_X0_keepAgreed_X0 : ∀ w ∈ wsX00, w ∈ wsX0_keepAgreed := by decide +kernel
theorem kdvX0_keepAgreed : yX0_keepAgreed.cls = RX0 ∧ yX0_keepAgreed.cls ≠ "java/lang/invoke/MethodHandle" ∧ yX0_keepAgreed.cls ≠ "java/lang/invoke/VarHandle" ∧ (parseMethodDescriptor yX0_keepAgreed.desc).map (fun d => d.parameters.length) = some 0 := by decide +kernel
abbrev rmX0_keepAgreed : Room := { frames := 3, cells := 0, slots := 0, locals := 66 }
def mlX0_keepAgreed_4 (s_rows : Int32) (s_kind : Int32) (s_n : Int32) (s_first : Int32) (kE : Int32 → (Nat → Int32) → Option (Int32 × (Nat → Int32))) : Nat → Int32 → Int32 → (Nat → Int32) → Option (Int32 × (Nat → Int32))
  | 0, _, _, _ => none
  | n + 1, x1, x2, s_certain => (if (s_rows * (3 : Int32)) ≤ x2 then (kE x1 s_certain) else (if (24 : Int32) ≤ x2 then (kE x1 s_certain) else (if x2 < 0 ∨ 24 ≤ (Int32.toNatClampNeg x2) then none else (md_jn (fun (x1_61 : Int32) (s_certain_61 : Nat → Int32) => (md_let (x2 + (1 : Int32)) (fun (x2_4 : Int32) => (mlX0_keepAgreed_4 s_rows s_kind s_n s_first kE n x1_61 x2_4 s_certain_61)))) (fun kJ61 => (if (s_certain (Int32.toNatClampNeg x2)) = 0 then (kJ61 x1 s_certain) else (if x2 < 0 ∨ 24 ≤ (Int32.toNatClampNeg x2) then none else (Option.bind (mX0_sixtyHere s_kind s_n s_first (x2 / (3 : Int32)) (x2 - x2 / (3 : Int32) * (3 : Int32))) (fun u7 => (if (s_certain (Int32.toNatClampNeg x2)) = u7 then (md_let (x1 + (1 : Int32)) (fun (x1_10 : Int32) => (kJ61 x1_10 s_certain))) else (if x2 < 0 ∨ 24 ≤ (Int32.toNatClampNeg x2) then none else (md_let (upd s_certain (Int32.toNatClampNeg x2) (0 : Int32)) (fun (s_certain_9 : Nat → Int32) => (kJ61 x1 s_certain_9))))))))))))))
set_option maxHeartbeats 4000000 in
set_option maxRecDepth 100000 in
theorem lX0_keepAgreed_4 {p : Program} {l : Launch} {e : Env} {s : State} {m : MethodId} {args : Array Value} {below : List Frame} {meth : Method} {c : Code} {Q : State → Prop} (C : kc p s m args meth c cX0_keepAgreed 3 RX0 yX0_keepAgreed.name wsX0_keepAgreed (some .boolean)) {D : va_G} {cI cT : ClassId} {so s_heldRows_a s_heldColumns_a s_heldSixties_a s_certain_a : Nat} {aL : Nat × Nat} (hK : va_K D vwCl (kTy cI cT) s) (hLz : kLz aL (fun q => q ∈ ([so, s_heldRows_a, s_heldColumns_a, s_heldSixties_a, s_certain_a] : List Nat)) s s.heap) (hnd : ([so, s_heldRows_a, s_heldColumns_a, s_heldSixties_a, s_certain_a] : List Nat).Nodup) (s_heldRows : Nat → Int32) (s_heldColumns : Nat → Int32) (s_heldSixties : Nat → Int32) (s_heldCount : Int32) (s_rows : Int32) (s_kind : Int32) (s_n : Int32) (s_first : Int32) (res : (Int32 × (Nat → Int32))) (hQ : ∀ (v : Int32) (s_certain : Nat → Int32) (H : Heap) (locs : List Loc) (pc : Nat) (ls : Array Slot), v = 0 ∨ v = 1 → some (v, s_certain) = some res → va_P D vwCl [(so, .inr (0, [.ref s_heldRows_a, .ref s_heldColumns_a, .ref s_heldSixties_a, .ref s_certain_a, .int s_heldCount, .int s_rows, .int s_kind, .int s_n, .int s_first])), (s_heldRows_a, .inl (cI, 24, .inl s_heldRows)), (s_heldColumns_a, .inl (cI, 24, .inl s_heldColumns)), (s_heldSixties_a, .inl (cI, 24, .inl s_heldSixties)), (s_certain_a, .inl (cI, 24, .inl s_certain))] H → va_S (fun q => q ∈ ([so, s_heldRows_a, s_heldColumns_a, s_heldSixties_a, s_certain_a] : List Nat)) s.heap H locs → decode cX0_keepAgreed pc = .ok (.ireturn, 1) → W p l e rmX0_keepAgreed s m args below meth c H locs 0 0 Q (F0 m pc ls [.int v])) (kE : Int32 → (Nat → Int32) → Option (Int32 × (Nat → Int32))) (hE : ∀ (y1 : Int32) (s_certain : Nat → Int32), kE y1 s_certain = some res → ∀ (H : Heap) (locs : List Loc), va_P D vwCl [(so, .inr (0, [.ref s_heldRows_a, .ref s_heldColumns_a, .ref s_heldSixties_a, .ref s_certain_a, .int s_heldCount, .int s_rows, .int s_kind, .int s_n, .int s_first])), (s_heldRows_a, .inl (cI, 24, .inl s_heldRows)), (s_heldColumns_a, .inl (cI, 24, .inl s_heldColumns)), (s_heldSixties_a, .inl (cI, 24, .inl s_heldSixties)), (s_certain_a, .inl (cI, 24, .inl s_certain))] H → va_S (fun q => q ∈ ([so, s_heldRows_a, s_heldColumns_a, s_heldSixties_a, s_certain_a] : List Nat)) s.heap H locs → ∀ (ls : Array Slot), lv_has ls 3 [(0, .ref so), (1, .int y1)] → W p l e rmX0_keepAgreed s m args below meth c H locs 0 0 Q (F0 m 67 ls [])) : ∀ (n : Nat), ∀ (x1 : Int32) (x2 : Int32) (s_certain : Nat → Int32), mlX0_keepAgreed_4 s_rows s_kind s_n s_first kE n x1 x2 s_certain = some res → ∀ (H : Heap) (locs : List Loc), va_P D vwCl [(so, .inr (0, [.ref s_heldRows_a, .ref s_heldColumns_a, .ref s_heldSixties_a, .ref s_certain_a, .int s_heldCount, .int s_rows, .int s_kind, .int s_n, .int s_first])), (s_heldRows_a, .inl (cI, 24, .inl s_heldRows)), (s_heldColumns_a, .inl (cI, 24, .inl s_heldColumns)), (s_heldSixties_a, .inl (cI, 24, .inl s_heldSixties)), (s_certain_a, .inl (cI, 24, .inl s_certain))] H → va_S (fun q => q ∈ ([so, s_heldRows_a, s_heldColumns_a, s_heldSixties_a, s_certain_a] : List Nat)) s.heap H locs → ∀ (ls : Array Slot), lv_has ls 3 [(0, .ref so), (1, .int x1), (2, .int x2)] → W p l e rmX0_keepAgreed s m args below meth c H locs 0 0 Q (F0 m 4 ls []) := by
  have C0 := C
  obtain ⟨hx, hb, hml, hown, hts, hr, hlk, hnm⟩ := C0
  intro n
  induction n with
  | zero => intro _ _ _ h; exact md_x h
  | succ n ih =>
    intro x1 x2 s_certain h H locs hP hS ls hl
    rw [mlX0_keepAgreed_4] at h
    refine lv_iload_n hx hb dX0_keepAgreed_4 rfl (lv_at hl 2 rfl) ?_
    refine lv_aload_n hx hb dX0_keepAgreed_5 rfl (lv_at hl 0 rfl) ?_
    refine va_get (D := D) (ci := 0) (v := .int s_rows) (C := RX0) (T := TX0) (N := 9) hx hb hts wi_X0_keepAgreed_X0 hown hK hP 0 rfl rfl 5 (by decide) (hts _ wm_X0_keepAgreed_0) (fun _ h9 => h9) rfl dX0_keepAgreed_6 ?_
    refine lv_iconst (v := 3) hx hb dX0_keepAgreed_9 (by decide) ?_
    refine lv_imul hx hb dX0_keepAgreed_10 ?_
    refine lv_icmp_ge (tgt := 67) hx hb dX0_keepAgreed_11 (by decide) (fun c1 => ?_) (fun c1 => ?_)
    · replace h := md_t c1 h
      exact hE x1 s_certain h _ _ hP hS ls (lv_sub hl [0, 1] rfl)
    replace h := md_f c1 h
    refine lv_iload_n hx hb dX0_keepAgreed_14 rfl (lv_at hl 2 rfl) ?_
    refine lv_bipush (v := 24) hx hb dX0_keepAgreed_15 (by decide) ?_
    refine lv_icmp_ge (tgt := 67) hx hb dX0_keepAgreed_17 (by decide) (fun c2 => ?_) (fun c2 => ?_)
    · replace h := md_t c2 h
      exact hE x1 s_certain h _ _ hP hS ls (lv_sub hl [0, 1] rfl)
    replace h := md_f c2 h
    refine lv_aload_n hx hb dX0_keepAgreed_20 rfl (lv_at hl 0 rfl) ?_
    refine va_get (D := D) (ci := 0) (v := .ref s_certain_a) (C := RX0) (T := TX0) (N := 9) hx hb hts wi_X0_keepAgreed_X0 hown hK hP 0 rfl rfl 3 (by decide) (hts _ wm_X0_keepAgreed_1) (fun _ h9 => h9) rfl dX0_keepAgreed_21 ?_
    refine lv_iload_n hx hb dX0_keepAgreed_24 rfl (lv_at hl 2 rfl) ?_
    obtain ⟨hin3, h⟩ := md_g h
    refine va_iald hx hb hK hP 4 0 rfl rfl hin3 dX0_keepAgreed_25 ?_
    obtain ⟨kJ61, ekJ61, h⟩ := md_jo h
    have KJ61 : ∀ (x1_61 : Int32) (s_certain_61 : Nat → Int32), kJ61 x1_61 s_certain_61 = some res → ∀ (H : Heap) (locs : List Loc), va_P D vwCl [(so, .inr (0, [.ref s_heldRows_a, .ref s_heldColumns_a, .ref s_heldSixties_a, .ref s_certain_a, .int s_heldCount, .int s_rows, .int s_kind, .int s_n, .int s_first])), (s_heldRows_a, .inl (cI, 24, .inl s_heldRows)), (s_heldColumns_a, .inl (cI, 24, .inl s_heldColumns)), (s_heldSixties_a, .inl (cI, 24, .inl s_heldSixties)), (s_certain_a, .inl (cI, 24, .inl s_certain_61))] H → va_S (fun q => q ∈ ([so, s_heldRows_a, s_heldColumns_a, s_heldSixties_a, s_certain_a] : List Nat)) s.heap H locs → ∀ (ls : Array Slot), lv_has ls 3 [(0, .ref so), (1, .int x1_61), (2, .int x2)] → W p l e rmX0_keepAgreed s m args below meth c H locs 0 0 Q (F0 m 61 ls []) := by
      intro x1_61 s_certain_61 h H locs hP hS ls hl
      rw [ekJ61] at h
      obtain ⟨x2_4, ex2_4⟩ : ∃ y : Int32, y = (x2 + (1 : Int32)) := ⟨_, rfl⟩
      replace h := md_le ex2_4 h
      refine lv_iinc (v := x2_4) (lv' := [(2, .int x2_4), (0, .ref so), (1, .int x1_61)]) hx hb dX0_keepAgreed_61 hl (k := 2) rfl (by rw [ex2_4]; rfl) (by decide) rfl (fun ls hl => ?_)
      refine lv_goto (tgt := 4) hx hb dX0_keepAgreed_64 (by decide) ?_
      exact ih x1_61 x2_4 s_certain_61 h _ _ hP hS ls (lv_sub hl [1, 2, 0] rfl)
    clear ekJ61
    refine lv_if_eq (tgt := 61) hx hb dX0_keepAgreed_26 (by decide) (fun c5 => ?_) (fun c5 => ?_)
    · replace h := md_t c5 h
      exact KJ61 x1 s_certain h _ _ hP hS ls (lv_sub hl [0, 1, 2] rfl)
    replace h := md_f c5 h
    refine lv_aload_n hx hb dX0_keepAgreed_29 rfl (lv_at hl 0 rfl) ?_
    refine va_get (D := D) (ci := 0) (v := .ref s_certain_a) (C := RX0) (T := TX0) (N := 9) hx hb hts wi_X0_keepAgreed_X0 hown hK hP 0 rfl rfl 3 (by decide) (hts _ wm_X0_keepAgreed_1) (fun _ h9 => h9) rfl dX0_keepAgreed_30 ?_
    refine lv_iload_n hx hb dX0_keepAgreed_33 rfl (lv_at hl 2 rfl) ?_
    obtain ⟨hin6, h⟩ := md_g h
    refine va_iald hx hb hK hP 4 0 rfl rfl hin6 dX0_keepAgreed_34 ?_
    refine lv_aload_n hx hb dX0_keepAgreed_35 rfl (lv_at hl 0 rfl) ?_
    refine lv_iload_n hx hb dX0_keepAgreed_36 rfl (lv_at hl 2 rfl) ?_
    refine lv_iconst (v := 3) hx hb dX0_keepAgreed_37 (by decide) ?_
    refine lv_idiv hx hb dX0_keepAgreed_38 (by decide) ?_
    refine lv_iload_n hx hb dX0_keepAgreed_39 rfl (lv_at hl 2 rfl) ?_
    refine lv_iconst (v := 3) hx hb dX0_keepAgreed_40 (by decide) ?_
    refine lv_irem hx hb dX0_keepAgreed_41 (by decide) ?_
    obtain ⟨u7, hu7, h⟩ := md_b h
    refine kV C (ctX0_sixtyHere l  hu7) gX0_keepAgreed_X0_sixtyHere rfl kdvX0_sixtyHere ⟨rfl, rfl⟩ ⟨by decide, by decide⟩ kW_blind (va_recv hK hP (ci := 0) (q0 := 0) rfl rfl) (kW_use hK (hP.sub (ws' := [(so, .inr (0, [.ref s_heldRows_a, .ref s_heldColumns_a, .ref s_heldSixties_a, .ref s_certain_a, .int s_heldCount, .int s_rows, .int s_kind, .int s_n, .int s_first])), (s_heldRows_a, .inl (cI, 24, .inl s_heldRows)), (s_heldColumns_a, .inl (cI, 24, .inl s_heldColumns)), (s_heldSixties_a, .inl (cI, 24, .inl s_heldSixties)), (s_certain_a, .inl (cI, 24, .inl s_certain))]) [0, 1, 2, 3, 4] rfl) (kL_at hLz hS (fun _ q => q.elim))) rfl hl [.int (s_certain (Int32.toNatClampNeg x2))] rfl (Nat.le_of_ble_eq_true rfl) dX0_keepAgreed_42 ⟨by decide, by decide⟩ ?_
    refine lv_icmp_ne (tgt := 54) hx hb dX0_keepAgreed_45 (by decide) (fun c8 => ?_) (fun c8 => ?_)
    · replace h := md_f c8 h
      refine lv_aload_n hx hb dX0_keepAgreed_54 rfl (lv_at hl 0 rfl) ?_
      refine va_get (D := D) (ci := 0) (v := .ref s_certain_a) (C := RX0) (T := TX0) (N := 9) hx hb hts wi_X0_keepAgreed_X0 hown hK hP 0 rfl rfl 3 (by decide) (hts _ wm_X0_keepAgreed_1) (fun _ h9 => h9) rfl dX0_keepAgreed_55 ?_
      refine lv_iload_n hx hb dX0_keepAgreed_58 rfl (lv_at hl 2 rfl) ?_
      refine lv_iconst (v := 0) hx hb dX0_keepAgreed_59 (by decide) ?_
      obtain ⟨hin9, h⟩ := md_g h
      refine va_iast hx hb hK hP (kD hnd rfl) hS 4 0 rfl rfl hin9 dX0_keepAgreed_60 (fun H locs hP _ hS => ?_)
      have hP : va_P D vwCl [(so, .inr (0, [.ref s_heldRows_a, .ref s_heldColumns_a, .ref s_heldSixties_a, .ref s_certain_a, .int s_heldCount, .int s_rows, .int s_kind, .int s_n, .int s_first])), (s_heldRows_a, .inl (cI, 24, .inl s_heldRows)), (s_heldColumns_a, .inl (cI, 24, .inl s_heldColumns)), (s_heldSixties_a, .inl (cI, 24, .inl s_heldSixties)), (s_certain_a, .inl (cI, 24, .inl (upd s_certain (Int32.toNatClampNeg x2) (0 : Int32))))] H := hP
      obtain ⟨s_certain_9, es_certain_9⟩ : ∃ y : Nat → Int32, y = (upd s_certain (Int32.toNatClampNeg x2) (0 : Int32)) := ⟨_, rfl⟩
      replace h := md_le es_certain_9 h
      rw [← es_certain_9] at hP
      exact KJ61 x1 s_certain_9 h _ _ hP hS ls (lv_sub hl [0, 1, 2] rfl)
    replace h := md_t c8 h
    obtain ⟨x1_10, ex1_10⟩ : ∃ y : Int32, y = (x1 + (1 : Int32)) := ⟨_, rfl⟩
    replace h := md_le ex1_10 h
    refine lv_iinc (v := x1_10) (lv' := [(1, .int x1_10), (0, .ref so), (2, .int x2)]) hx hb dX0_keepAgreed_48 hl (k := 1) rfl (by rw [ex1_10]; rfl) (by decide) rfl (fun ls hl => ?_)
    refine lv_goto (tgt := 61) hx hb dX0_keepAgreed_51 (by decide) ?_
    exact KJ61 x1_10 s_certain h _ _ hP hS ls (lv_sub hl [1, 0, 2] rfl)
def mX0_keepAgreed (s_certain : Nat → Int32) (s_heldCount : Int32) (s_rows : Int32) (s_kind : Int32) (s_n : Int32) (s_first : Int32) : Option (Int32 × (Nat → Int32)) := (mlX0_keepAgreed_4 s_rows s_kind s_n s_first (fun (y1_67 : Int32) (s_certain_67 : Nat → Int32) => (if y1_67 ≤ s_heldCount then (some ((0 : Int32), s_certain_67)) else (some ((1 : Int32), s_certain_67)))) kN (0 : Int32) (0 : Int32) s_certain)
set_option maxHeartbeats 4000000 in
set_option maxRecDepth 100000 in
theorem bX0_keepAgreed {p : Program} {l : Launch} {e : Env} {s : State} {m : MethodId} {args : Array Value} {below : List Frame} {meth : Method} {c : Code} {Q : State → Prop} (C : kc p s m args meth c cX0_keepAgreed 3 RX0 yX0_keepAgreed.name wsX0_keepAgreed (some .boolean)) {D : va_G} {cI cT : ClassId} {so s_heldRows_a s_heldColumns_a s_heldSixties_a s_certain_a : Nat} {aL : Nat × Nat} (hK : va_K D vwCl (kTy cI cT) s) (hLz : kLz aL (fun q => q ∈ ([so, s_heldRows_a, s_heldColumns_a, s_heldSixties_a, s_certain_a] : List Nat)) s s.heap) (hnd : ([so, s_heldRows_a, s_heldColumns_a, s_heldSixties_a, s_certain_a] : List Nat).Nodup) (s_heldRows : Nat → Int32) (s_heldColumns : Nat → Int32) (s_heldSixties : Nat → Int32) (s_certain : Nat → Int32) (s_heldCount : Int32) (s_rows : Int32) (s_kind : Int32) (s_n : Int32) (s_first : Int32) (res : (Int32 × (Nat → Int32))) (hQ : ∀ (v : Int32) (s_certain : Nat → Int32) (H : Heap) (locs : List Loc) (pc : Nat) (ls : Array Slot), v = 0 ∨ v = 1 → some (v, s_certain) = some res → va_P D vwCl [(so, .inr (0, [.ref s_heldRows_a, .ref s_heldColumns_a, .ref s_heldSixties_a, .ref s_certain_a, .int s_heldCount, .int s_rows, .int s_kind, .int s_n, .int s_first])), (s_heldRows_a, .inl (cI, 24, .inl s_heldRows)), (s_heldColumns_a, .inl (cI, 24, .inl s_heldColumns)), (s_heldSixties_a, .inl (cI, 24, .inl s_heldSixties)), (s_certain_a, .inl (cI, 24, .inl s_certain))] H → va_S (fun q => q ∈ ([so, s_heldRows_a, s_heldColumns_a, s_heldSixties_a, s_certain_a] : List Nat)) s.heap H locs → decode cX0_keepAgreed pc = .ok (.ireturn, 1) → W p l e rmX0_keepAgreed s m args below meth c H locs 0 0 Q (F0 m pc ls [.int v])) : mX0_keepAgreed s_certain s_heldCount s_rows s_kind s_n s_first = some res → ∀ (H : Heap) (locs : List Loc), va_P D vwCl [(so, .inr (0, [.ref s_heldRows_a, .ref s_heldColumns_a, .ref s_heldSixties_a, .ref s_certain_a, .int s_heldCount, .int s_rows, .int s_kind, .int s_n, .int s_first])), (s_heldRows_a, .inl (cI, 24, .inl s_heldRows)), (s_heldColumns_a, .inl (cI, 24, .inl s_heldColumns)), (s_heldSixties_a, .inl (cI, 24, .inl s_heldSixties)), (s_certain_a, .inl (cI, 24, .inl s_certain))] H → va_S (fun q => q ∈ ([so, s_heldRows_a, s_heldColumns_a, s_heldSixties_a, s_certain_a] : List Nat)) s.heap H locs → ∀ (ls : Array Slot), lv_has ls 3 [(0, .ref so)] → W p l e rmX0_keepAgreed s m args below meth c H locs 0 0 Q (F0 m 0 ls []) := by
  intro h H locs hP hS ls hl
  have C0 := C
  obtain ⟨hx, hb, hml, hown, hts, hr, hlk, hnm⟩ := C0
  rw [mX0_keepAgreed] at h
  refine lv_iconst (v := 0) hx hb dX0_keepAgreed_0 (by decide) ?_
  refine lv_istore_n (lv' := [(1, .int (0 : Int32)), (0, .ref so)]) hx hb dX0_keepAgreed_1 rfl hl (by decide) rfl (fun ls hl => ?_)
  refine lv_iconst (v := 0) hx hb dX0_keepAgreed_2 (by decide) ?_
  refine lv_istore_n (lv' := [(2, .int (0 : Int32)), (1, .int (0 : Int32)), (0, .ref so)]) hx hb dX0_keepAgreed_3 rfl hl (by decide) rfl (fun ls hl => ?_)
  refine lX0_keepAgreed_4 (so := so) (s_heldRows_a := s_heldRows_a) (s_heldColumns_a := s_heldColumns_a) (s_heldSixties_a := s_heldSixties_a) (s_certain_a := s_certain_a) C hK hLz hnd s_heldRows s_heldColumns s_heldSixties s_heldCount s_rows s_kind s_n s_first res hQ _ (fun y1_67 s_certain_67 h H locs hP hS ls hl => ?_) kN (0 : Int32) (0 : Int32) s_certain h _ _ hP hS ls (lv_sub hl [2, 1, 0] rfl)
  refine lv_iload_n hx hb dX0_keepAgreed_67 rfl (lv_at hl 1 rfl) ?_
  refine lv_aload_n hx hb dX0_keepAgreed_68 rfl (lv_at hl 0 rfl) ?_
  refine va_get (D := D) (ci := 0) (v := .int s_heldCount) (C := RX0) (T := TX0) (N := 9) hx hb hts wi_X0_keepAgreed_X0 hown hK hP 0 rfl rfl 4 (by decide) (hts _ wm_X0_keepAgreed_2) (fun _ h9 => h9) rfl dX0_keepAgreed_69 ?_
  refine lv_icmp_le (tgt := 79) hx hb dX0_keepAgreed_72 (by decide) (fun c11 => ?_) (fun c11 => ?_)
  · replace h := md_t c11 h
    refine lv_iconst (v := 0) hx hb dX0_keepAgreed_79 (by decide) ?_
    exact hQ (0 : Int32) s_certain_67 H locs 80 ls (by decide) h hP hS dX0_keepAgreed_80
  replace h := md_f c11 h
  refine lv_iconst (v := 1) hx hb dX0_keepAgreed_75 (by decide) ?_
  refine lv_goto (tgt := 80) hx hb dX0_keepAgreed_76 (by decide) ?_
  exact hQ (1 : Int32) s_certain_67 H locs 80 ls (by decide) h hP hS dX0_keepAgreed_80
set_option maxHeartbeats 4000000 in
theorem ctX0_keepAgreed (l : Launch) {D : va_G} {cI cT : ClassId} {so s_heldRows_a s_heldColumns_a s_heldSixties_a s_certain_a : Nat} {aL : Nat × Nat} {s_heldRows : Nat → Int32} {s_heldColumns : Nat → Int32} {s_heldSixties : Nat → Int32} {s_certain : Nat → Int32} {s_heldCount : Int32} {s_rows : Int32} {s_kind : Int32} {s_n : Int32} {s_first : Int32} {res : (Int32 × (Nat → Int32))} (hnd : ([so, s_heldRows_a, s_heldColumns_a, s_heldSixties_a, s_certain_a] : List Nat).Nodup) (hm : mX0_keepAgreed s_certain s_heldCount s_rows s_kind s_n s_first = some res) : Met l yX0_keepAgreed wsX0_keepAgreed rmX0_keepAgreed (va_Pc [.ref so] (kW D cI cT [(so, .inr (0, [.ref s_heldRows_a, .ref s_heldColumns_a, .ref s_heldSixties_a, .ref s_certain_a, .int s_heldCount, .int s_rows, .int s_kind, .int s_n, .int s_first])), (s_heldRows_a, .inl (cI, 24, .inl s_heldRows)), (s_heldColumns_a, .inl (cI, 24, .inl s_heldColumns)), (s_heldSixties_a, .inl (cI, 24, .inl s_heldSixties)), (s_certain_a, .inl (cI, 24, .inl s_certain))] (some aL) (fun q => q ∈ ([so, s_heldRows_a, s_heldColumns_a, s_heldSixties_a, s_certain_a] : List Nat)))) (kX (some (.int res.1)) D [(so, .inr (0, [.ref s_heldRows_a, .ref s_heldColumns_a, .ref s_heldSixties_a, .ref s_certain_a, .int s_heldCount, .int s_rows, .int s_kind, .int s_n, .int s_first])), (s_heldRows_a, .inl (cI, 24, .inl s_heldRows)), (s_heldColumns_a, .inl (cI, 24, .inl s_heldColumns)), (s_heldSixties_a, .inl (cI, 24, .inl s_heldSixties)), (s_certain_a, .inl (cI, 24, .inl res.2))] (fun q => q ∈ ([so, s_heldRows_a, s_heldColumns_a, s_heldSixties_a, s_certain_a] : List Nat))) 0 0 (fun q => q ∈ ([so, s_heldRows_a, s_heldColumns_a, s_heldSixties_a, s_certain_a] : List Nat)) :=
  km (by decide) rfl (Nat.le_of_ble_eq_true rfl) (fun p e s m below meth c ls C hB hl => bX0_keepAgreed C hB.1 (hB.2.2 aL rfl) hnd s_heldRows s_heldColumns s_heldSixties s_certain s_heldCount s_rows s_kind s_n s_first res (fun v s_certain1 H locs pc ls hz h hP hS hd => by obtain rfl := Option.some.inj h; exact kx_z C hz hP hS hd) hm s.heap [] hB.2.1 va_S.rf ls hl)
theorem wm_X0_gatherSure_0 : Cond.fieldLink RX0 21 "SixtyTablet$Search" "certain" "[I" ∈ wsX0_gatherSure := by decide +kernel
theorem wi_X0_gatherSure_X0 : ∀ w ∈ wsX00, w ∈ wsX0_gatherSure := by decide +kernel
theorem kdvX0_gatherSure : yX0_gatherSure.cls = RX0 ∧ yX0_gatherSure.cls ≠ "java/lang/invoke/MethodHandle" ∧ yX0_gatherSure.cls ≠ "java/lang/invoke/VarHandle" ∧ (parseMethodDescriptor yX0_gatherSure.desc).map (fun d => d.parameters.length) = some 1 := by decide +kernel
abbrev rmX0_gatherSure : Room := { frames := 5, cells := 0, slots := 0, locals := 110 }
def mlX0_gatherSure_2 (kE : (Nat → Int32) → Option ((Nat → Int32) × (Nat → Int32) × (Nat → Int32) × (Nat → Int32) × Int32 × Int32 × Int32 × Int32 × Int32)) : Nat → Int32 → (Nat → Int32) → Option ((Nat → Int32) × (Nat → Int32) × (Nat → Int32) × (Nat → Int32) × Int32 × Int32 × Int32 × Int32 × Int32)
  | 0, _, _ => none
  | n + 1, x2, s_certain => (if (24 : Int32) ≤ x2 then (kE s_certain) else (if x2 < 0 ∨ 24 ≤ (Int32.toNatClampNeg x2) then none else (md_let (upd s_certain (Int32.toNatClampNeg x2) (0 : Int32)) (fun (s_certain_2 : Nat → Int32) => (md_let (x2 + (1 : Int32)) (fun (x2_3 : Int32) => (mlX0_gatherSure_2 kE n x2_3 s_certain_2)))))))
set_option maxHeartbeats 4000000 in
set_option maxRecDepth 100000 in
theorem lX0_gatherSure_2 {p : Program} {l : Launch} {e : Env} {s : State} {m : MethodId} {args : Array Value} {below : List Frame} {meth : Method} {c : Code} {Q : State → Prop} (C : kc p s m args meth c cX0_gatherSure 4 RX0 yX0_gatherSure.name wsX0_gatherSure none) {D : va_G} {cI cT : ClassId} {so s_heldRows_a s_heldColumns_a s_heldSixties_a s_certain_a to t_cells_a t_sixties_a : Nat} {aL : Nat × Nat} (hK : va_K D vwCl (kTy cI cT) s) (hLz : kLz aL (fun q => q ∈ ([so, s_heldRows_a, s_heldColumns_a, s_heldSixties_a, s_certain_a, to, t_cells_a, t_sixties_a] : List Nat)) s s.heap) (hnd : ([so, s_heldRows_a, s_heldColumns_a, s_heldSixties_a, s_certain_a, to, t_cells_a, t_sixties_a] : List Nat).Nodup) (s_heldRows : Nat → Int32) (s_heldColumns : Nat → Int32) (s_heldSixties : Nat → Int32) (s_heldCount : Int32) (s_rows : Int32) (s_kind : Int32) (s_n : Int32) (s_first : Int32) (t_cells : Nat → Int32) (t_sixties : Nat → Int32) (t_rows : Int32) (res : ((Nat → Int32) × (Nat → Int32) × (Nat → Int32) × (Nat → Int32) × Int32 × Int32 × Int32 × Int32 × Int32)) (hQ : ∀ (s_heldRows : Nat → Int32) (s_heldColumns : Nat → Int32) (s_heldSixties : Nat → Int32) (s_certain : Nat → Int32) (s_heldCount : Int32) (s_rows : Int32) (s_kind : Int32) (s_n : Int32) (s_first : Int32) (H : Heap) (locs : List Loc) (pc : Nat) (ls : Array Slot), some (s_heldRows, s_heldColumns, s_heldSixties, s_certain, s_heldCount, s_rows, s_kind, s_n, s_first) = some res → va_P D vwCl [(so, .inr (0, [.ref s_heldRows_a, .ref s_heldColumns_a, .ref s_heldSixties_a, .ref s_certain_a, .int s_heldCount, .int s_rows, .int s_kind, .int s_n, .int s_first])), (s_heldRows_a, .inl (cI, 24, .inl s_heldRows)), (s_heldColumns_a, .inl (cI, 24, .inl s_heldColumns)), (s_heldSixties_a, .inl (cI, 24, .inl s_heldSixties)), (s_certain_a, .inl (cI, 24, .inl s_certain)), (to, .inr (1, [.ref t_cells_a, .ref t_sixties_a, .int t_rows])), (t_cells_a, .inl (cI, 24, .inl t_cells)), (t_sixties_a, .inl (cI, 24, .inl t_sixties))] H → va_S (fun q => q ∈ ([so, s_heldRows_a, s_heldColumns_a, s_heldSixties_a, s_certain_a, to, t_cells_a, t_sixties_a] : List Nat)) s.heap H locs → decode cX0_gatherSure pc = .ok (.return_, 1) → W p l e rmX0_gatherSure s m args below meth c H locs 0 0 Q (F0 m pc ls [])) (kE : (Nat → Int32) → Option ((Nat → Int32) × (Nat → Int32) × (Nat → Int32) × (Nat → Int32) × Int32 × Int32 × Int32 × Int32 × Int32)) (hE : ∀ (s_certain : Nat → Int32), kE s_certain = some res → ∀ (H : Heap) (locs : List Loc), va_P D vwCl [(so, .inr (0, [.ref s_heldRows_a, .ref s_heldColumns_a, .ref s_heldSixties_a, .ref s_certain_a, .int s_heldCount, .int s_rows, .int s_kind, .int s_n, .int s_first])), (s_heldRows_a, .inl (cI, 24, .inl s_heldRows)), (s_heldColumns_a, .inl (cI, 24, .inl s_heldColumns)), (s_heldSixties_a, .inl (cI, 24, .inl s_heldSixties)), (s_certain_a, .inl (cI, 24, .inl s_certain)), (to, .inr (1, [.ref t_cells_a, .ref t_sixties_a, .int t_rows])), (t_cells_a, .inl (cI, 24, .inl t_cells)), (t_sixties_a, .inl (cI, 24, .inl t_sixties))] H → va_S (fun q => q ∈ ([so, s_heldRows_a, s_heldColumns_a, s_heldSixties_a, s_certain_a, to, t_cells_a, t_sixties_a] : List Nat)) s.heap H locs → ∀ (ls : Array Slot), lv_has ls 4 [(0, .ref so), (1, .ref to)] → W p l e rmX0_gatherSure s m args below meth c H locs 0 0 Q (F0 m 21 ls [])) : ∀ (n : Nat), ∀ (x2 : Int32) (s_certain : Nat → Int32), mlX0_gatherSure_2 kE n x2 s_certain = some res → ∀ (H : Heap) (locs : List Loc), va_P D vwCl [(so, .inr (0, [.ref s_heldRows_a, .ref s_heldColumns_a, .ref s_heldSixties_a, .ref s_certain_a, .int s_heldCount, .int s_rows, .int s_kind, .int s_n, .int s_first])), (s_heldRows_a, .inl (cI, 24, .inl s_heldRows)), (s_heldColumns_a, .inl (cI, 24, .inl s_heldColumns)), (s_heldSixties_a, .inl (cI, 24, .inl s_heldSixties)), (s_certain_a, .inl (cI, 24, .inl s_certain)), (to, .inr (1, [.ref t_cells_a, .ref t_sixties_a, .int t_rows])), (t_cells_a, .inl (cI, 24, .inl t_cells)), (t_sixties_a, .inl (cI, 24, .inl t_sixties))] H → va_S (fun q => q ∈ ([so, s_heldRows_a, s_heldColumns_a, s_heldSixties_a, s_certain_a, to, t_cells_a, t_sixties_a] : List Nat)) s.heap H locs → ∀ (ls : Array Slot), lv_has ls 4 [(0, .ref so), (1, .ref to), (2, .int x2)] → W p l e rmX0_gatherSure s m args below meth c H locs 0 0 Q (F0 m 2 ls []) := by
  have C0 := C
  obtain ⟨hx, hb, hml, hown, hts, hr, hlk, hnm⟩ := C0
  intro n
  induction n with
  | zero => intro _ _ h; exact md_x h
  | succ n ih =>
    intro x2 s_certain h H locs hP hS ls hl
    rw [mlX0_gatherSure_2] at h
    refine lv_iload_n hx hb dX0_gatherSure_2 rfl (lv_at hl 2 rfl) ?_
    refine lv_bipush (v := 24) hx hb dX0_gatherSure_3 (by decide) ?_
    refine lv_icmp_ge (tgt := 21) hx hb dX0_gatherSure_5 (by decide) (fun c1 => ?_) (fun c1 => ?_)
    · replace h := md_t c1 h
      exact hE s_certain h _ _ hP hS ls (lv_sub hl [0, 1] rfl)
    replace h := md_f c1 h
    refine lv_aload_n hx hb dX0_gatherSure_8 rfl (lv_at hl 0 rfl) ?_
    refine va_get (D := D) (ci := 0) (v := .ref s_certain_a) (C := RX0) (T := TX0) (N := 9) hx hb hts wi_X0_gatherSure_X0 hown hK hP 0 rfl rfl 3 (by decide) (hts _ wm_X0_gatherSure_0) (fun _ h9 => h9) rfl dX0_gatherSure_9 ?_
    refine lv_iload_n hx hb dX0_gatherSure_12 rfl (lv_at hl 2 rfl) ?_
    refine lv_iconst (v := 0) hx hb dX0_gatherSure_13 (by decide) ?_
    obtain ⟨hin2, h⟩ := md_g h
    refine va_iast hx hb hK hP (kD hnd rfl) hS 4 0 rfl rfl hin2 dX0_gatherSure_14 (fun H locs hP _ hS => ?_)
    have hP : va_P D vwCl [(so, .inr (0, [.ref s_heldRows_a, .ref s_heldColumns_a, .ref s_heldSixties_a, .ref s_certain_a, .int s_heldCount, .int s_rows, .int s_kind, .int s_n, .int s_first])), (s_heldRows_a, .inl (cI, 24, .inl s_heldRows)), (s_heldColumns_a, .inl (cI, 24, .inl s_heldColumns)), (s_heldSixties_a, .inl (cI, 24, .inl s_heldSixties)), (s_certain_a, .inl (cI, 24, .inl (upd s_certain (Int32.toNatClampNeg x2) (0 : Int32)))), (to, .inr (1, [.ref t_cells_a, .ref t_sixties_a, .int t_rows])), (t_cells_a, .inl (cI, 24, .inl t_cells)), (t_sixties_a, .inl (cI, 24, .inl t_sixties))] H := hP
    obtain ⟨s_certain_2, es_certain_2⟩ : ∃ y : Nat → Int32, y = (upd s_certain (Int32.toNatClampNeg x2) (0 : Int32)) := ⟨_, rfl⟩
    replace h := md_le es_certain_2 h
    rw [← es_certain_2] at hP
    obtain ⟨x2_3, ex2_3⟩ : ∃ y : Int32, y = (x2 + (1 : Int32)) := ⟨_, rfl⟩
    replace h := md_le ex2_3 h
    refine lv_iinc (v := x2_3) (lv' := [(2, .int x2_3), (0, .ref so), (1, .ref to)]) hx hb dX0_gatherSure_15 hl (k := 2) rfl (by rw [ex2_3]; rfl) (by decide) rfl (fun ls hl => ?_)
    refine lv_goto (tgt := 2) hx hb dX0_gatherSure_18 (by decide) ?_
    exact ih x2_3 s_certain_2 h _ _ hP hS ls (lv_sub hl [1, 2, 0] rfl)
def mlX0_gatherSure_41 (s_heldRows : Nat → Int32) (s_heldColumns : Nat → Int32) (s_heldSixties : Nat → Int32) (s_heldCount : Int32) (s_rows : Int32) (kE : (Nat → Int32) → Int32 → Int32 → Int32 → Option ((Nat → Int32) × (Nat → Int32) × (Nat → Int32) × (Nat → Int32) × Int32 × Int32 × Int32 × Int32 × Int32)) : Nat → Int32 → Int32 → (Nat → Int32) → Int32 → Int32 → Int32 → Option ((Nat → Int32) × (Nat → Int32) × (Nat → Int32) × (Nat → Int32) × Int32 × Int32 × Int32 × Int32 × Int32)
  | 0, _, _, _, _, _, _ => none
  | n + 1, x2, x3, s_certain, s_kind, s_n, s_first => (if (4000 : Int32) ≤ x3 then (kE s_certain s_kind s_n s_first) else (if x2 = 0 then (kE s_certain s_kind s_n s_first) else (Option.bind (mX0_nextReading s_heldRows s_heldColumns s_heldSixties s_heldCount s_rows s_kind s_n s_first) (fun u8 => (md_jn (fun (z0_71 : Int32) (s_certain_71 : Nat → Int32) => (md_let (x3 + (1 : Int32)) (fun (x3_9 : Int32) => (mlX0_gatherSure_41 s_heldRows s_heldColumns s_heldSixties s_heldCount s_rows kE n z0_71 x3_9 s_certain_71 u8.2.1 u8.2.2.1 u8.2.2.2)))) (fun kJ71 => (md_jn (fun (s_certain_70 : Nat → Int32) => (kJ71 (0 : Int32) s_certain_70)) (fun kJ70 => (if u8.1 = 0 then (kJ70 s_certain) else (Option.bind (mX0_keepAgreed s_certain s_heldCount s_rows u8.2.1 u8.2.2.1 u8.2.2.2) (fun u11 => (if u11.1 = 0 then (kJ70 u11.2) else (kJ71 (1 : Int32) u11.2)))))))))))))
set_option maxHeartbeats 4000000 in
set_option maxRecDepth 100000 in
theorem lX0_gatherSure_41 {p : Program} {l : Launch} {e : Env} {s : State} {m : MethodId} {args : Array Value} {below : List Frame} {meth : Method} {c : Code} {Q : State → Prop} (C : kc p s m args meth c cX0_gatherSure 4 RX0 yX0_gatherSure.name wsX0_gatherSure none) {D : va_G} {cI cT : ClassId} {so s_heldRows_a s_heldColumns_a s_heldSixties_a s_certain_a to t_cells_a t_sixties_a : Nat} {aL : Nat × Nat} (hK : va_K D vwCl (kTy cI cT) s) (hLz : kLz aL (fun q => q ∈ ([so, s_heldRows_a, s_heldColumns_a, s_heldSixties_a, s_certain_a, to, t_cells_a, t_sixties_a] : List Nat)) s s.heap) (hnd : ([so, s_heldRows_a, s_heldColumns_a, s_heldSixties_a, s_certain_a, to, t_cells_a, t_sixties_a] : List Nat).Nodup) (s_heldRows : Nat → Int32) (s_heldColumns : Nat → Int32) (s_heldSixties : Nat → Int32) (s_heldCount : Int32) (s_rows : Int32) (t_cells : Nat → Int32) (t_sixties : Nat → Int32) (t_rows : Int32) (res : ((Nat → Int32) × (Nat → Int32) × (Nat → Int32) × (Nat → Int32) × Int32 × Int32 × Int32 × Int32 × Int32)) (hQ : ∀ (s_heldRows : Nat → Int32) (s_heldColumns : Nat → Int32) (s_heldSixties : Nat → Int32) (s_certain : Nat → Int32) (s_heldCount : Int32) (s_rows : Int32) (s_kind : Int32) (s_n : Int32) (s_first : Int32) (H : Heap) (locs : List Loc) (pc : Nat) (ls : Array Slot), some (s_heldRows, s_heldColumns, s_heldSixties, s_certain, s_heldCount, s_rows, s_kind, s_n, s_first) = some res → va_P D vwCl [(so, .inr (0, [.ref s_heldRows_a, .ref s_heldColumns_a, .ref s_heldSixties_a, .ref s_certain_a, .int s_heldCount, .int s_rows, .int s_kind, .int s_n, .int s_first])), (s_heldRows_a, .inl (cI, 24, .inl s_heldRows)), (s_heldColumns_a, .inl (cI, 24, .inl s_heldColumns)), (s_heldSixties_a, .inl (cI, 24, .inl s_heldSixties)), (s_certain_a, .inl (cI, 24, .inl s_certain)), (to, .inr (1, [.ref t_cells_a, .ref t_sixties_a, .int t_rows])), (t_cells_a, .inl (cI, 24, .inl t_cells)), (t_sixties_a, .inl (cI, 24, .inl t_sixties))] H → va_S (fun q => q ∈ ([so, s_heldRows_a, s_heldColumns_a, s_heldSixties_a, s_certain_a, to, t_cells_a, t_sixties_a] : List Nat)) s.heap H locs → decode cX0_gatherSure pc = .ok (.return_, 1) → W p l e rmX0_gatherSure s m args below meth c H locs 0 0 Q (F0 m pc ls [])) (kE : (Nat → Int32) → Int32 → Int32 → Int32 → Option ((Nat → Int32) × (Nat → Int32) × (Nat → Int32) × (Nat → Int32) × Int32 × Int32 × Int32 × Int32 × Int32)) (hE : ∀ (s_certain : Nat → Int32) (s_kind : Int32) (s_n : Int32) (s_first : Int32), kE s_certain s_kind s_n s_first = some res → ∀ (H : Heap) (locs : List Loc), va_P D vwCl [(so, .inr (0, [.ref s_heldRows_a, .ref s_heldColumns_a, .ref s_heldSixties_a, .ref s_certain_a, .int s_heldCount, .int s_rows, .int s_kind, .int s_n, .int s_first])), (s_heldRows_a, .inl (cI, 24, .inl s_heldRows)), (s_heldColumns_a, .inl (cI, 24, .inl s_heldColumns)), (s_heldSixties_a, .inl (cI, 24, .inl s_heldSixties)), (s_certain_a, .inl (cI, 24, .inl s_certain)), (to, .inr (1, [.ref t_cells_a, .ref t_sixties_a, .int t_rows])), (t_cells_a, .inl (cI, 24, .inl t_cells)), (t_sixties_a, .inl (cI, 24, .inl t_sixties))] H → va_S (fun q => q ∈ ([so, s_heldRows_a, s_heldColumns_a, s_heldSixties_a, s_certain_a, to, t_cells_a, t_sixties_a] : List Nat)) s.heap H locs → ∀ (ls : Array Slot), lv_has ls 4 [] → W p l e rmX0_gatherSure s m args below meth c H locs 0 0 Q (F0 m 78 ls [])) : ∀ (n : Nat), ∀ (x2 : Int32) (x3 : Int32) (s_certain : Nat → Int32) (s_kind : Int32) (s_n : Int32) (s_first : Int32), mlX0_gatherSure_41 s_heldRows s_heldColumns s_heldSixties s_heldCount s_rows kE n x2 x3 s_certain s_kind s_n s_first = some res → ∀ (H : Heap) (locs : List Loc), va_P D vwCl [(so, .inr (0, [.ref s_heldRows_a, .ref s_heldColumns_a, .ref s_heldSixties_a, .ref s_certain_a, .int s_heldCount, .int s_rows, .int s_kind, .int s_n, .int s_first])), (s_heldRows_a, .inl (cI, 24, .inl s_heldRows)), (s_heldColumns_a, .inl (cI, 24, .inl s_heldColumns)), (s_heldSixties_a, .inl (cI, 24, .inl s_heldSixties)), (s_certain_a, .inl (cI, 24, .inl s_certain)), (to, .inr (1, [.ref t_cells_a, .ref t_sixties_a, .int t_rows])), (t_cells_a, .inl (cI, 24, .inl t_cells)), (t_sixties_a, .inl (cI, 24, .inl t_sixties))] H → va_S (fun q => q ∈ ([so, s_heldRows_a, s_heldColumns_a, s_heldSixties_a, s_certain_a, to, t_cells_a, t_sixties_a] : List Nat)) s.heap H locs → ∀ (ls : Array Slot), lv_has ls 4 [(0, .ref so), (2, .int x2), (3, .int x3)] → W p l e rmX0_gatherSure s m args below meth c H locs 0 0 Q (F0 m 41 ls []) := by
  have C0 := C
  obtain ⟨hx, hb, hml, hown, hts, hr, hlk, hnm⟩ := C0
  intro n
  induction n with
  | zero => intro _ _ _ _ _ _ h; exact md_x h
  | succ n ih =>
    intro x2 x3 s_certain s_kind s_n s_first h H locs hP hS ls hl
    rw [mlX0_gatherSure_41] at h
    refine lv_iload_n hx hb dX0_gatherSure_41 rfl (lv_at hl 2 rfl) ?_
    refine lv_sipush (v := 4000) hx hb dX0_gatherSure_42 (by decide) ?_
    refine lv_icmp_ge (tgt := 78) hx hb dX0_gatherSure_45 (by decide) (fun c6 => ?_) (fun c6 => ?_)
    · replace h := md_t c6 h
      exact hE s_certain s_kind s_n s_first h _ _ hP hS ls (lv_sub hl [] rfl)
    replace h := md_f c6 h
    refine lv_iload_n hx hb dX0_gatherSure_48 rfl (lv_at hl 1 rfl) ?_
    refine lv_if_eq (tgt := 78) hx hb dX0_gatherSure_49 (by decide) (fun c7 => ?_) (fun c7 => ?_)
    · replace h := md_t c7 h
      exact hE s_certain s_kind s_n s_first h _ _ hP hS ls (lv_sub hl [] rfl)
    replace h := md_f c7 h
    refine lv_aload_n hx hb dX0_gatherSure_52 rfl (lv_at hl 0 rfl) ?_
    obtain ⟨u8, hu8, h⟩ := md_b h
    refine kVx C (ctX0_nextReading l (nd_sub hnd [0, 1, 2, 3, 4] (by decide) rfl) hu8) gX0_gatherSure_X0_nextReading rfl kdvX0_nextReading ⟨rfl, rfl⟩ ⟨by decide, by decide⟩ kW_blind (va_recv hK hP (ci := 0) (q0 := 0) rfl rfl) (kW_use hK (hP.sub (ws' := [(so, .inr (0, [.ref s_heldRows_a, .ref s_heldColumns_a, .ref s_heldSixties_a, .ref s_certain_a, .int s_heldCount, .int s_rows, .int s_kind, .int s_n, .int s_first])), (s_heldRows_a, .inl (cI, 24, .inl s_heldRows)), (s_heldColumns_a, .inl (cI, 24, .inl s_heldColumns)), (s_heldSixties_a, .inl (cI, 24, .inl s_heldSixties)), (s_certain_a, .inl (cI, 24, .inl s_certain))]) [0, 1, 2, 3, 4] rfl) (kL_at hLz hS (mem_sub [0, 1, 2, 3, 4] rfl))) rfl hl [] rfl (Nat.le_of_ble_eq_true rfl) dX0_gatherSure_53 ⟨by decide, by decide⟩ hS (mem_sub [0, 1, 2, 3, 4] rfl) (fun H1 locs hP1 hk1 hS => ?_)
    replace hP : va_P D vwCl [(so, .inr (0, [.ref s_heldRows_a, .ref s_heldColumns_a, .ref s_heldSixties_a, .ref s_certain_a, .int s_heldCount, .int s_rows, .int u8.2.1, .int u8.2.2.1, .int u8.2.2.2])), (s_heldRows_a, .inl (cI, 24, .inl s_heldRows)), (s_heldColumns_a, .inl (cI, 24, .inl s_heldColumns)), (s_heldSixties_a, .inl (cI, 24, .inl s_heldSixties)), (s_certain_a, .inl (cI, 24, .inl s_certain)), (to, .inr (1, [.ref t_cells_a, .ref t_sixties_a, .int t_rows])), (t_cells_a, .inl (cI, 24, .inl t_cells)), (t_sixties_a, .inl (cI, 24, .inl t_sixties))] H1 := kjoin hnd rfl hP hP1 hk1 [0, 1, 2, 3, 4] rfl [(true, 0), (true, 1), (true, 2), (true, 3), (true, 4), (false, 5), (false, 6), (false, 7)] rfl rfl
    clear hP1 hk1
    generalize H1 = H at hP hS ⊢
    obtain ⟨kJ71, ekJ71, h⟩ := md_jo h
    have KJ71 : ∀ (z0_71 : Int32) (s_certain_71 : Nat → Int32), kJ71 z0_71 s_certain_71 = some res → ∀ (H : Heap) (locs : List Loc), va_P D vwCl [(so, .inr (0, [.ref s_heldRows_a, .ref s_heldColumns_a, .ref s_heldSixties_a, .ref s_certain_a, .int s_heldCount, .int s_rows, .int u8.2.1, .int u8.2.2.1, .int u8.2.2.2])), (s_heldRows_a, .inl (cI, 24, .inl s_heldRows)), (s_heldColumns_a, .inl (cI, 24, .inl s_heldColumns)), (s_heldSixties_a, .inl (cI, 24, .inl s_heldSixties)), (s_certain_a, .inl (cI, 24, .inl s_certain_71)), (to, .inr (1, [.ref t_cells_a, .ref t_sixties_a, .int t_rows])), (t_cells_a, .inl (cI, 24, .inl t_cells)), (t_sixties_a, .inl (cI, 24, .inl t_sixties))] H → va_S (fun q => q ∈ ([so, s_heldRows_a, s_heldColumns_a, s_heldSixties_a, s_certain_a, to, t_cells_a, t_sixties_a] : List Nat)) s.heap H locs → ∀ (ls : Array Slot), lv_has ls 4 [(0, .ref so), (3, .int x3)] → W p l e rmX0_gatherSure s m args below meth c H locs 0 0 Q (F0 m 71 ls [.int z0_71]) := by
      intro z0_71 s_certain_71 h H locs hP hS ls hl
      rw [ekJ71] at h
      refine lv_istore_n (lv' := [(2, .int z0_71), (0, .ref so), (3, .int x3)]) hx hb dX0_gatherSure_71 rfl hl (by decide) rfl (fun ls hl => ?_)
      obtain ⟨x3_9, ex3_9⟩ : ∃ y : Int32, y = (x3 + (1 : Int32)) := ⟨_, rfl⟩
      replace h := md_le ex3_9 h
      refine lv_iinc (v := x3_9) (lv' := [(3, .int x3_9), (2, .int z0_71), (0, .ref so)]) hx hb dX0_gatherSure_72 hl (k := 2) rfl (by rw [ex3_9]; rfl) (by decide) rfl (fun ls hl => ?_)
      refine lv_goto (tgt := 41) hx hb dX0_gatherSure_75 (by decide) ?_
      exact ih z0_71 x3_9 s_certain_71 u8.2.1 u8.2.2.1 u8.2.2.2 h _ _ hP hS ls (lv_sub hl [2, 1, 0] rfl)
    clear ekJ71
    obtain ⟨kJ70, ekJ70, h⟩ := md_jo h
    have KJ70 : ∀ (s_certain_70 : Nat → Int32), kJ70 s_certain_70 = some res → ∀ (H : Heap) (locs : List Loc), va_P D vwCl [(so, .inr (0, [.ref s_heldRows_a, .ref s_heldColumns_a, .ref s_heldSixties_a, .ref s_certain_a, .int s_heldCount, .int s_rows, .int u8.2.1, .int u8.2.2.1, .int u8.2.2.2])), (s_heldRows_a, .inl (cI, 24, .inl s_heldRows)), (s_heldColumns_a, .inl (cI, 24, .inl s_heldColumns)), (s_heldSixties_a, .inl (cI, 24, .inl s_heldSixties)), (s_certain_a, .inl (cI, 24, .inl s_certain_70)), (to, .inr (1, [.ref t_cells_a, .ref t_sixties_a, .int t_rows])), (t_cells_a, .inl (cI, 24, .inl t_cells)), (t_sixties_a, .inl (cI, 24, .inl t_sixties))] H → va_S (fun q => q ∈ ([so, s_heldRows_a, s_heldColumns_a, s_heldSixties_a, s_certain_a, to, t_cells_a, t_sixties_a] : List Nat)) s.heap H locs → ∀ (ls : Array Slot), lv_has ls 4 [(0, .ref so), (3, .int x3)] → W p l e rmX0_gatherSure s m args below meth c H locs 0 0 Q (F0 m 70 ls []) := by
      intro s_certain_70 h H locs hP hS ls hl
      rw [ekJ70] at h
      refine lv_iconst (v := 0) hx hb dX0_gatherSure_70 (by decide) ?_
      exact KJ71 (0 : Int32) s_certain_70 h _ _ hP hS ls (lv_sub hl [0, 1] rfl)
    clear ekJ70
    refine lv_if_eq (tgt := 70) hx hb dX0_gatherSure_56 (by decide) (fun c10 => ?_) (fun c10 => ?_)
    · replace h := md_t c10 h
      exact KJ70 s_certain h _ _ hP hS ls (lv_sub hl [0, 2] rfl)
    replace h := md_f c10 h
    refine lv_aload_n hx hb dX0_gatherSure_59 rfl (lv_at hl 0 rfl) ?_
    obtain ⟨u11, hu11, h⟩ := md_b h
    refine kVx C (ctX0_keepAgreed l (nd_sub hnd [0, 1, 2, 3, 4] (by decide) rfl) hu11) gX0_gatherSure_X0_keepAgreed rfl kdvX0_keepAgreed ⟨rfl, rfl⟩ ⟨by decide, by decide⟩ kW_blind (va_recv hK hP (ci := 0) (q0 := 0) rfl rfl) (kW_use hK (hP.sub (ws' := [(so, .inr (0, [.ref s_heldRows_a, .ref s_heldColumns_a, .ref s_heldSixties_a, .ref s_certain_a, .int s_heldCount, .int s_rows, .int u8.2.1, .int u8.2.2.1, .int u8.2.2.2])), (s_heldRows_a, .inl (cI, 24, .inl s_heldRows)), (s_heldColumns_a, .inl (cI, 24, .inl s_heldColumns)), (s_heldSixties_a, .inl (cI, 24, .inl s_heldSixties)), (s_certain_a, .inl (cI, 24, .inl s_certain))]) [0, 1, 2, 3, 4] rfl) (kL_at hLz hS (mem_sub [0, 1, 2, 3, 4] rfl))) rfl hl [] rfl (Nat.le_of_ble_eq_true rfl) dX0_gatherSure_60 ⟨by decide, by decide⟩ hS (mem_sub [0, 1, 2, 3, 4] rfl) (fun H1 locs hP1 hk1 hS => ?_)
    replace hP : va_P D vwCl [(so, .inr (0, [.ref s_heldRows_a, .ref s_heldColumns_a, .ref s_heldSixties_a, .ref s_certain_a, .int s_heldCount, .int s_rows, .int u8.2.1, .int u8.2.2.1, .int u8.2.2.2])), (s_heldRows_a, .inl (cI, 24, .inl s_heldRows)), (s_heldColumns_a, .inl (cI, 24, .inl s_heldColumns)), (s_heldSixties_a, .inl (cI, 24, .inl s_heldSixties)), (s_certain_a, .inl (cI, 24, .inl u11.2)), (to, .inr (1, [.ref t_cells_a, .ref t_sixties_a, .int t_rows])), (t_cells_a, .inl (cI, 24, .inl t_cells)), (t_sixties_a, .inl (cI, 24, .inl t_sixties))] H1 := kjoin hnd rfl hP hP1 hk1 [0, 1, 2, 3, 4] rfl [(true, 0), (true, 1), (true, 2), (true, 3), (true, 4), (false, 5), (false, 6), (false, 7)] rfl rfl
    clear hP1 hk1
    generalize H1 = H at hP hS ⊢
    refine lv_if_eq (tgt := 70) hx hb dX0_gatherSure_63 (by decide) (fun c12 => ?_) (fun c12 => ?_)
    · replace h := md_t c12 h
      exact KJ70 u11.2 h _ _ hP hS ls (lv_sub hl [0, 2] rfl)
    replace h := md_f c12 h
    refine lv_iconst (v := 1) hx hb dX0_gatherSure_66 (by decide) ?_
    refine lv_goto (tgt := 71) hx hb dX0_gatherSure_67 (by decide) ?_
    exact KJ71 (1 : Int32) u11.2 h _ _ hP hS ls (lv_sub hl [0, 2] rfl)
def mX0_gatherSure (s_heldRows : Nat → Int32) (s_heldColumns : Nat → Int32) (s_heldSixties : Nat → Int32) (s_certain : Nat → Int32) (t_cells : Nat → Int32) (t_sixties : Nat → Int32) (t_rows : Int32) : Option ((Nat → Int32) × (Nat → Int32) × (Nat → Int32) × (Nat → Int32) × Int32 × Int32 × Int32 × Int32 × Int32) := (mlX0_gatherSure_2 (fun (s_certain_21 : Nat → Int32) => (Option.bind (mX0_begin s_heldRows s_heldColumns s_heldSixties t_cells t_sixties t_rows) (fun u4 => (Option.bind (mX0_nextReading u4.1 u4.2.1 u4.2.2.1 u4.2.2.2.1 u4.2.2.2.2.1 u4.2.2.2.2.2.1 u4.2.2.2.2.2.2.1 u4.2.2.2.2.2.2.2) (fun u5 => (md_jn (fun (s_certain_39 : Nat → Int32) => (mlX0_gatherSure_41 u4.1 u4.2.1 u4.2.2.1 u4.2.2.2.1 u4.2.2.2.2.1 (fun (s_certain_78 : Nat → Int32) (s_kind_78 : Int32) (s_n_78 : Int32) (s_first_78 : Int32) => (some (u4.1, u4.2.1, u4.2.2.1, s_certain_78, u4.2.2.2.1, u4.2.2.2.2.1, s_kind_78, s_n_78, s_first_78))) kN u5.1 (0 : Int32) s_certain_39 u5.2.1 u5.2.2.1 u5.2.2.2)) (fun kJ39 => (if u5.1 = 0 then (kJ39 s_certain_21) else (Option.bind (mX0_takeAll s_certain_21 u4.2.2.2.2.1 u5.2.1 u5.2.2.1 u5.2.2.2) (fun u14 => (kJ39 u14))))))))))) kN (0 : Int32) s_certain)
set_option maxHeartbeats 4000000 in
set_option maxRecDepth 100000 in
theorem bX0_gatherSure {p : Program} {l : Launch} {e : Env} {s : State} {m : MethodId} {args : Array Value} {below : List Frame} {meth : Method} {c : Code} {Q : State → Prop} (C : kc p s m args meth c cX0_gatherSure 4 RX0 yX0_gatherSure.name wsX0_gatherSure none) {D : va_G} {cI cT : ClassId} {so s_heldRows_a s_heldColumns_a s_heldSixties_a s_certain_a to t_cells_a t_sixties_a : Nat} {aL : Nat × Nat} (hK : va_K D vwCl (kTy cI cT) s) (hLz : kLz aL (fun q => q ∈ ([so, s_heldRows_a, s_heldColumns_a, s_heldSixties_a, s_certain_a, to, t_cells_a, t_sixties_a] : List Nat)) s s.heap) (hnd : ([so, s_heldRows_a, s_heldColumns_a, s_heldSixties_a, s_certain_a, to, t_cells_a, t_sixties_a] : List Nat).Nodup) (s_heldRows : Nat → Int32) (s_heldColumns : Nat → Int32) (s_heldSixties : Nat → Int32) (s_certain : Nat → Int32) (s_heldCount : Int32) (s_rows : Int32) (s_kind : Int32) (s_n : Int32) (s_first : Int32) (t_cells : Nat → Int32) (t_sixties : Nat → Int32) (t_rows : Int32) (res : ((Nat → Int32) × (Nat → Int32) × (Nat → Int32) × (Nat → Int32) × Int32 × Int32 × Int32 × Int32 × Int32)) (hQ : ∀ (s_heldRows : Nat → Int32) (s_heldColumns : Nat → Int32) (s_heldSixties : Nat → Int32) (s_certain : Nat → Int32) (s_heldCount : Int32) (s_rows : Int32) (s_kind : Int32) (s_n : Int32) (s_first : Int32) (H : Heap) (locs : List Loc) (pc : Nat) (ls : Array Slot), some (s_heldRows, s_heldColumns, s_heldSixties, s_certain, s_heldCount, s_rows, s_kind, s_n, s_first) = some res → va_P D vwCl [(so, .inr (0, [.ref s_heldRows_a, .ref s_heldColumns_a, .ref s_heldSixties_a, .ref s_certain_a, .int s_heldCount, .int s_rows, .int s_kind, .int s_n, .int s_first])), (s_heldRows_a, .inl (cI, 24, .inl s_heldRows)), (s_heldColumns_a, .inl (cI, 24, .inl s_heldColumns)), (s_heldSixties_a, .inl (cI, 24, .inl s_heldSixties)), (s_certain_a, .inl (cI, 24, .inl s_certain)), (to, .inr (1, [.ref t_cells_a, .ref t_sixties_a, .int t_rows])), (t_cells_a, .inl (cI, 24, .inl t_cells)), (t_sixties_a, .inl (cI, 24, .inl t_sixties))] H → va_S (fun q => q ∈ ([so, s_heldRows_a, s_heldColumns_a, s_heldSixties_a, s_certain_a, to, t_cells_a, t_sixties_a] : List Nat)) s.heap H locs → decode cX0_gatherSure pc = .ok (.return_, 1) → W p l e rmX0_gatherSure s m args below meth c H locs 0 0 Q (F0 m pc ls [])) : mX0_gatherSure s_heldRows s_heldColumns s_heldSixties s_certain t_cells t_sixties t_rows = some res → ∀ (H : Heap) (locs : List Loc), va_P D vwCl [(so, .inr (0, [.ref s_heldRows_a, .ref s_heldColumns_a, .ref s_heldSixties_a, .ref s_certain_a, .int s_heldCount, .int s_rows, .int s_kind, .int s_n, .int s_first])), (s_heldRows_a, .inl (cI, 24, .inl s_heldRows)), (s_heldColumns_a, .inl (cI, 24, .inl s_heldColumns)), (s_heldSixties_a, .inl (cI, 24, .inl s_heldSixties)), (s_certain_a, .inl (cI, 24, .inl s_certain)), (to, .inr (1, [.ref t_cells_a, .ref t_sixties_a, .int t_rows])), (t_cells_a, .inl (cI, 24, .inl t_cells)), (t_sixties_a, .inl (cI, 24, .inl t_sixties))] H → va_S (fun q => q ∈ ([so, s_heldRows_a, s_heldColumns_a, s_heldSixties_a, s_certain_a, to, t_cells_a, t_sixties_a] : List Nat)) s.heap H locs → ∀ (ls : Array Slot), lv_has ls 4 [(0, .ref so), (1, .ref to)] → W p l e rmX0_gatherSure s m args below meth c H locs 0 0 Q (F0 m 0 ls []) := by
  intro h H locs hP hS ls hl
  have C0 := C
  obtain ⟨hx, hb, hml, hown, hts, hr, hlk, hnm⟩ := C0
  rw [mX0_gatherSure] at h
  refine lv_iconst (v := 0) hx hb dX0_gatherSure_0 (by decide) ?_
  refine lv_istore_n (lv' := [(2, .int (0 : Int32)), (0, .ref so), (1, .ref to)]) hx hb dX0_gatherSure_1 rfl hl (by decide) rfl (fun ls hl => ?_)
  refine lX0_gatherSure_2 (so := so) (s_heldRows_a := s_heldRows_a) (s_heldColumns_a := s_heldColumns_a) (s_heldSixties_a := s_heldSixties_a) (s_certain_a := s_certain_a) (to := to) (t_cells_a := t_cells_a) (t_sixties_a := t_sixties_a) C hK hLz hnd s_heldRows s_heldColumns s_heldSixties s_heldCount s_rows s_kind s_n s_first t_cells t_sixties t_rows res hQ _ (fun s_certain_21 h H locs hP hS ls hl => ?_) kN (0 : Int32) s_certain h _ _ hP hS ls (lv_sub hl [1, 2, 0] rfl)
  refine lv_aload_n hx hb dX0_gatherSure_21 rfl (lv_at hl 0 rfl) ?_
  refine lv_aload_n hx hb dX0_gatherSure_22 rfl (lv_at hl 1 rfl) ?_
  obtain ⟨u4, hu4, h⟩ := md_b h
  refine kVx C (ctX0_begin l (nd_sub hnd [0, 1, 2, 3, 4, 5, 6, 7] (by decide) rfl) hu4) gX0_gatherSure_X0_begin rfl kdvX0_begin ⟨rfl, rfl⟩ ⟨by decide, by decide⟩ kW_blind (va_recv hK hP (ci := 0) (q0 := 0) rfl rfl) (kW_use hK (hP.sub (ws' := [(so, .inr (0, [.ref s_heldRows_a, .ref s_heldColumns_a, .ref s_heldSixties_a, .ref s_certain_a, .int s_heldCount, .int s_rows, .int s_kind, .int s_n, .int s_first])), (s_heldRows_a, .inl (cI, 24, .inl s_heldRows)), (s_heldColumns_a, .inl (cI, 24, .inl s_heldColumns)), (s_heldSixties_a, .inl (cI, 24, .inl s_heldSixties)), (s_certain_a, .inl (cI, 24, .inl s_certain_21)), (to, .inr (1, [.ref t_cells_a, .ref t_sixties_a, .int t_rows])), (t_cells_a, .inl (cI, 24, .inl t_cells)), (t_sixties_a, .inl (cI, 24, .inl t_sixties))]) [0, 1, 2, 3, 4, 5, 6, 7] rfl) kL_no) rfl hl [] rfl (Nat.le_of_ble_eq_true rfl) dX0_gatherSure_23 ⟨by decide, by decide⟩ hS (mem_sub [0, 1, 2, 3, 4, 5, 6, 7] rfl) (fun H1 locs hP1 hk1 hS => ?_)
  replace hP : va_P D vwCl [(so, .inr (0, [.ref s_heldRows_a, .ref s_heldColumns_a, .ref s_heldSixties_a, .ref s_certain_a, .int u4.2.2.2.1, .int u4.2.2.2.2.1, .int u4.2.2.2.2.2.1, .int u4.2.2.2.2.2.2.1, .int u4.2.2.2.2.2.2.2])), (s_heldRows_a, .inl (cI, 24, .inl u4.1)), (s_heldColumns_a, .inl (cI, 24, .inl u4.2.1)), (s_heldSixties_a, .inl (cI, 24, .inl u4.2.2.1)), (s_certain_a, .inl (cI, 24, .inl s_certain_21)), (to, .inr (1, [.ref t_cells_a, .ref t_sixties_a, .int t_rows])), (t_cells_a, .inl (cI, 24, .inl t_cells)), (t_sixties_a, .inl (cI, 24, .inl t_sixties))] H1 := kjoin hnd rfl hP hP1 hk1 [0, 1, 2, 3, 4, 5, 6, 7] rfl [(true, 0), (true, 1), (true, 2), (true, 3), (true, 4), (true, 5), (true, 6), (true, 7)] rfl rfl
  clear hP1 hk1
  generalize H1 = H at hP hS ⊢
  refine lv_aload_n hx hb dX0_gatherSure_26 rfl (lv_at hl 0 rfl) ?_
  obtain ⟨u5, hu5, h⟩ := md_b h
  refine kVx C (ctX0_nextReading l (nd_sub hnd [0, 1, 2, 3, 4] (by decide) rfl) hu5) gX0_gatherSure_X0_nextReading rfl kdvX0_nextReading ⟨rfl, rfl⟩ ⟨by decide, by decide⟩ kW_blind (va_recv hK hP (ci := 0) (q0 := 0) rfl rfl) (kW_use hK (hP.sub (ws' := [(so, .inr (0, [.ref s_heldRows_a, .ref s_heldColumns_a, .ref s_heldSixties_a, .ref s_certain_a, .int u4.2.2.2.1, .int u4.2.2.2.2.1, .int u4.2.2.2.2.2.1, .int u4.2.2.2.2.2.2.1, .int u4.2.2.2.2.2.2.2])), (s_heldRows_a, .inl (cI, 24, .inl u4.1)), (s_heldColumns_a, .inl (cI, 24, .inl u4.2.1)), (s_heldSixties_a, .inl (cI, 24, .inl u4.2.2.1)), (s_certain_a, .inl (cI, 24, .inl s_certain_21))]) [0, 1, 2, 3, 4] rfl) (kL_at hLz hS (mem_sub [0, 1, 2, 3, 4] rfl))) rfl hl [] rfl (Nat.le_of_ble_eq_true rfl) dX0_gatherSure_27 ⟨by decide, by decide⟩ hS (mem_sub [0, 1, 2, 3, 4] rfl) (fun H1 locs hP1 hk1 hS => ?_)
  replace hP : va_P D vwCl [(so, .inr (0, [.ref s_heldRows_a, .ref s_heldColumns_a, .ref s_heldSixties_a, .ref s_certain_a, .int u4.2.2.2.1, .int u4.2.2.2.2.1, .int u5.2.1, .int u5.2.2.1, .int u5.2.2.2])), (s_heldRows_a, .inl (cI, 24, .inl u4.1)), (s_heldColumns_a, .inl (cI, 24, .inl u4.2.1)), (s_heldSixties_a, .inl (cI, 24, .inl u4.2.2.1)), (s_certain_a, .inl (cI, 24, .inl s_certain_21)), (to, .inr (1, [.ref t_cells_a, .ref t_sixties_a, .int t_rows])), (t_cells_a, .inl (cI, 24, .inl t_cells)), (t_sixties_a, .inl (cI, 24, .inl t_sixties))] H1 := kjoin hnd rfl hP hP1 hk1 [0, 1, 2, 3, 4] rfl [(true, 0), (true, 1), (true, 2), (true, 3), (true, 4), (false, 5), (false, 6), (false, 7)] rfl rfl
  clear hP1 hk1
  generalize H1 = H at hP hS ⊢
  refine lv_istore_n (lv' := [(2, .int u5.1), (0, .ref so), (1, .ref to)]) hx hb dX0_gatherSure_30 rfl hl (by decide) rfl (fun ls hl => ?_)
  refine lv_iload_n hx hb dX0_gatherSure_31 rfl (lv_at hl 0 rfl) ?_
  obtain ⟨kJ39, ekJ39, h⟩ := md_jo h
  have KJ39 : ∀ (s_certain_39 : Nat → Int32), kJ39 s_certain_39 = some res → ∀ (H : Heap) (locs : List Loc), va_P D vwCl [(so, .inr (0, [.ref s_heldRows_a, .ref s_heldColumns_a, .ref s_heldSixties_a, .ref s_certain_a, .int u4.2.2.2.1, .int u4.2.2.2.2.1, .int u5.2.1, .int u5.2.2.1, .int u5.2.2.2])), (s_heldRows_a, .inl (cI, 24, .inl u4.1)), (s_heldColumns_a, .inl (cI, 24, .inl u4.2.1)), (s_heldSixties_a, .inl (cI, 24, .inl u4.2.2.1)), (s_certain_a, .inl (cI, 24, .inl s_certain_39)), (to, .inr (1, [.ref t_cells_a, .ref t_sixties_a, .int t_rows])), (t_cells_a, .inl (cI, 24, .inl t_cells)), (t_sixties_a, .inl (cI, 24, .inl t_sixties))] H → va_S (fun q => q ∈ ([so, s_heldRows_a, s_heldColumns_a, s_heldSixties_a, s_certain_a, to, t_cells_a, t_sixties_a] : List Nat)) s.heap H locs → ∀ (ls : Array Slot), lv_has ls 4 [(0, .ref so), (2, .int u5.1)] → W p l e rmX0_gatherSure s m args below meth c H locs 0 0 Q (F0 m 39 ls []) := by
    intro s_certain_39 h H locs hP hS ls hl
    rw [ekJ39] at h
    refine lv_iconst (v := 0) hx hb dX0_gatherSure_39 (by decide) ?_
    refine lv_istore_n (lv' := [(3, .int (0 : Int32)), (0, .ref so), (2, .int u5.1)]) hx hb dX0_gatherSure_40 rfl hl (by decide) rfl (fun ls hl => ?_)
    refine lX0_gatherSure_41 (so := so) (s_heldRows_a := s_heldRows_a) (s_heldColumns_a := s_heldColumns_a) (s_heldSixties_a := s_heldSixties_a) (s_certain_a := s_certain_a) (to := to) (t_cells_a := t_cells_a) (t_sixties_a := t_sixties_a) C hK hLz hnd u4.1 u4.2.1 u4.2.2.1 u4.2.2.2.1 u4.2.2.2.2.1 t_cells t_sixties t_rows res hQ _ (fun s_certain_78 s_kind_78 s_n_78 s_first_78 h H locs hP hS ls hl => ?_) kN u5.1 (0 : Int32) s_certain_39 u5.2.1 u5.2.2.1 u5.2.2.2 h _ _ hP hS ls (lv_sub hl [1, 2, 0] rfl)
    exact hQ u4.1 u4.2.1 u4.2.2.1 s_certain_78 u4.2.2.2.1 u4.2.2.2.2.1 s_kind_78 s_n_78 s_first_78 H locs 78 ls h hP hS dX0_gatherSure_78
  clear ekJ39
  refine lv_if_eq (tgt := 39) hx hb dX0_gatherSure_32 (by decide) (fun c13 => ?_) (fun c13 => ?_)
  · replace h := md_t c13 h
    exact KJ39 s_certain_21 h _ _ hP hS ls (lv_sub hl [1, 0] rfl)
  replace h := md_f c13 h
  refine lv_aload_n hx hb dX0_gatherSure_35 rfl (lv_at hl 1 rfl) ?_
  obtain ⟨u14, hu14, h⟩ := md_b h
  refine kVx C (ctX0_takeAll l (nd_sub hnd [0, 1, 2, 3, 4] (by decide) rfl) hu14) gX0_gatherSure_X0_takeAll rfl kdvX0_takeAll ⟨rfl, rfl⟩ ⟨by decide, by decide⟩ kW_blind (va_recv hK hP (ci := 0) (q0 := 0) rfl rfl) (kW_use hK (hP.sub (ws' := [(so, .inr (0, [.ref s_heldRows_a, .ref s_heldColumns_a, .ref s_heldSixties_a, .ref s_certain_a, .int u4.2.2.2.1, .int u4.2.2.2.2.1, .int u5.2.1, .int u5.2.2.1, .int u5.2.2.2])), (s_heldRows_a, .inl (cI, 24, .inl u4.1)), (s_heldColumns_a, .inl (cI, 24, .inl u4.2.1)), (s_heldSixties_a, .inl (cI, 24, .inl u4.2.2.1)), (s_certain_a, .inl (cI, 24, .inl s_certain_21))]) [0, 1, 2, 3, 4] rfl) (kL_at hLz hS (mem_sub [0, 1, 2, 3, 4] rfl))) rfl hl [] rfl (Nat.le_of_ble_eq_true rfl) dX0_gatherSure_36 ⟨by decide, by decide⟩ hS (mem_sub [0, 1, 2, 3, 4] rfl) (fun H1 locs hP1 hk1 hS => ?_)
  replace hP : va_P D vwCl [(so, .inr (0, [.ref s_heldRows_a, .ref s_heldColumns_a, .ref s_heldSixties_a, .ref s_certain_a, .int u4.2.2.2.1, .int u4.2.2.2.2.1, .int u5.2.1, .int u5.2.2.1, .int u5.2.2.2])), (s_heldRows_a, .inl (cI, 24, .inl u4.1)), (s_heldColumns_a, .inl (cI, 24, .inl u4.2.1)), (s_heldSixties_a, .inl (cI, 24, .inl u4.2.2.1)), (s_certain_a, .inl (cI, 24, .inl u14)), (to, .inr (1, [.ref t_cells_a, .ref t_sixties_a, .int t_rows])), (t_cells_a, .inl (cI, 24, .inl t_cells)), (t_sixties_a, .inl (cI, 24, .inl t_sixties))] H1 := kjoin hnd rfl hP hP1 hk1 [0, 1, 2, 3, 4] rfl [(true, 0), (true, 1), (true, 2), (true, 3), (true, 4), (false, 5), (false, 6), (false, 7)] rfl rfl
  clear hP1 hk1
  generalize H1 = H at hP hS ⊢
  exact KJ39 u14 h _ _ hP hS ls (lv_sub hl [1, 0] rfl)
set_option maxHeartbeats 4000000 in
theorem ctX0_gatherSure (l : Launch) {D : va_G} {cI cT : ClassId} {so s_heldRows_a s_heldColumns_a s_heldSixties_a s_certain_a to t_cells_a t_sixties_a : Nat} {aL : Nat × Nat} {s_heldRows : Nat → Int32} {s_heldColumns : Nat → Int32} {s_heldSixties : Nat → Int32} {s_certain : Nat → Int32} {s_heldCount : Int32} {s_rows : Int32} {s_kind : Int32} {s_n : Int32} {s_first : Int32} {t_cells : Nat → Int32} {t_sixties : Nat → Int32} {t_rows : Int32} {res : ((Nat → Int32) × (Nat → Int32) × (Nat → Int32) × (Nat → Int32) × Int32 × Int32 × Int32 × Int32 × Int32)} (hnd : ([so, s_heldRows_a, s_heldColumns_a, s_heldSixties_a, s_certain_a, to, t_cells_a, t_sixties_a] : List Nat).Nodup) (hm : mX0_gatherSure s_heldRows s_heldColumns s_heldSixties s_certain t_cells t_sixties t_rows = some res) : Met l yX0_gatherSure wsX0_gatherSure rmX0_gatherSure (va_Pc [.ref so, .ref to] (kW D cI cT [(so, .inr (0, [.ref s_heldRows_a, .ref s_heldColumns_a, .ref s_heldSixties_a, .ref s_certain_a, .int s_heldCount, .int s_rows, .int s_kind, .int s_n, .int s_first])), (s_heldRows_a, .inl (cI, 24, .inl s_heldRows)), (s_heldColumns_a, .inl (cI, 24, .inl s_heldColumns)), (s_heldSixties_a, .inl (cI, 24, .inl s_heldSixties)), (s_certain_a, .inl (cI, 24, .inl s_certain)), (to, .inr (1, [.ref t_cells_a, .ref t_sixties_a, .int t_rows])), (t_cells_a, .inl (cI, 24, .inl t_cells)), (t_sixties_a, .inl (cI, 24, .inl t_sixties))] (some aL) (fun q => q ∈ ([so, s_heldRows_a, s_heldColumns_a, s_heldSixties_a, s_certain_a, to, t_cells_a, t_sixties_a] : List Nat)))) (kX none D [(so, .inr (0, [.ref s_heldRows_a, .ref s_heldColumns_a, .ref s_heldSixties_a, .ref s_certain_a, .int res.2.2.2.2.1, .int res.2.2.2.2.2.1, .int res.2.2.2.2.2.2.1, .int res.2.2.2.2.2.2.2.1, .int res.2.2.2.2.2.2.2.2])), (s_heldRows_a, .inl (cI, 24, .inl res.1)), (s_heldColumns_a, .inl (cI, 24, .inl res.2.1)), (s_heldSixties_a, .inl (cI, 24, .inl res.2.2.1)), (s_certain_a, .inl (cI, 24, .inl res.2.2.2.1)), (to, .inr (1, [.ref t_cells_a, .ref t_sixties_a, .int t_rows])), (t_cells_a, .inl (cI, 24, .inl t_cells)), (t_sixties_a, .inl (cI, 24, .inl t_sixties))] (fun q => q ∈ ([so, s_heldRows_a, s_heldColumns_a, s_heldSixties_a, s_certain_a, to, t_cells_a, t_sixties_a] : List Nat))) 0 0 (fun q => q ∈ ([so, s_heldRows_a, s_heldColumns_a, s_heldSixties_a, s_certain_a, to, t_cells_a, t_sixties_a] : List Nat)) :=
  km (by decide) rfl (Nat.le_of_ble_eq_true rfl) (fun p e s m below meth c ls C hB hl => bX0_gatherSure C hB.1 (hB.2.2 aL rfl) hnd s_heldRows s_heldColumns s_heldSixties s_certain s_heldCount s_rows s_kind s_n s_first t_cells t_sixties t_rows res (fun s_heldRows1 s_heldColumns1 s_heldSixties1 s_certain1 s_heldCount1 s_rows1 s_kind1 s_n1 s_first1 H locs pc ls h hP hS hd => by obtain rfl := Option.some.inj h; exact kx_v C hP hS hd) hm s.heap [] hB.2.1 va_S.rf ls hl)
theorem wm_X0_sureIn_0 : Cond.fieldLink RX0 21 "SixtyTablet$Search" "certain" "[I" ∈ wsX0_sureIn := by decide +kernel
theorem wi_X0_sureIn_X0 : ∀ w ∈ wsX00, w ∈ wsX0_sureIn := by decide +kernel
theorem kdvX0_sureIn : yX0_sureIn.cls = RX0 ∧ yX0_sureIn.cls ≠ "java/lang/invoke/MethodHandle" ∧ yX0_sureIn.cls ≠ "java/lang/invoke/VarHandle" ∧ (parseMethodDescriptor yX0_sureIn.desc).map (fun d => d.parameters.length) = some 2 := by decide +kernel
abbrev rmX0_sureIn : Room := { frames := 0, cells := 0, slots := 0, locals := 0 }
def mX0_sureIn (s_certain : Nat → Int32) (p1 : Int32) (p2 : Int32) : Option Int32 := (md_let ((p1 * (3 : Int32)) + p2) (fun (x3_1 : Int32) => (if x3_1 < 0 then (some (0 : Int32)) else (if (24 : Int32) ≤ x3_1 then (some (0 : Int32)) else (if x3_1 < 0 ∨ 24 ≤ (Int32.toNatClampNeg x3_1) then none else (some (s_certain (Int32.toNatClampNeg x3_1))))))))
set_option maxHeartbeats 4000000 in
set_option maxRecDepth 100000 in
theorem bX0_sureIn {p : Program} {l : Launch} {e : Env} {s : State} {m : MethodId} {args : Array Value} {below : List Frame} {meth : Method} {c : Code} {Q : State → Prop} (C : kc p s m args meth c cX0_sureIn 4 RX0 yX0_sureIn.name wsX0_sureIn (some .int)) {D : va_G} {cI cT : ClassId} {so s_heldRows_a s_heldColumns_a s_heldSixties_a s_certain_a : Nat} (p1 : Int32) (p2 : Int32) (hK : va_K D vwCl (kTy cI cT) s) (s_heldRows : Nat → Int32) (s_heldColumns : Nat → Int32) (s_heldSixties : Nat → Int32) (s_certain : Nat → Int32) (s_heldCount : Int32) (s_rows : Int32) (s_kind : Int32) (s_n : Int32) (s_first : Int32) (hP : va_P D vwCl [(so, .inr (0, [.ref s_heldRows_a, .ref s_heldColumns_a, .ref s_heldSixties_a, .ref s_certain_a, .int s_heldCount, .int s_rows, .int s_kind, .int s_n, .int s_first])), (s_heldRows_a, .inl (cI, 24, .inl s_heldRows)), (s_heldColumns_a, .inl (cI, 24, .inl s_heldColumns)), (s_heldSixties_a, .inl (cI, 24, .inl s_heldSixties)), (s_certain_a, .inl (cI, 24, .inl s_certain))] s.heap) (res : Int32) (hQ : ∀ (v : Int32) (pc : Nat) (ls : Array Slot), some v = some res → decode cX0_sureIn pc = .ok (.ireturn, 1) → W p l e rmX0_sureIn s m args below meth c s.heap [] 0 0 Q (F0 m pc ls [.int v])) : mX0_sureIn s_certain p1 p2 = some res → ∀ (ls : Array Slot), lv_has ls 4 [(0, .ref so), (1, .int p1), (2, .int p2)] → W p l e rmX0_sureIn s m args below meth c s.heap [] 0 0 Q (F0 m 0 ls []) := by
  intro h ls hl
  have C0 := C
  obtain ⟨hx, hb, hml, hown, hts, hr, hlk, hnm⟩ := C0
  rw [mX0_sureIn] at h
  refine lv_iload_n hx hb dX0_sureIn_0 rfl (lv_at hl 1 rfl) ?_
  refine lv_iconst (v := 3) hx hb dX0_sureIn_1 (by decide) ?_
  refine lv_imul hx hb dX0_sureIn_2 ?_
  refine lv_iload_n hx hb dX0_sureIn_3 rfl (lv_at hl 2 rfl) ?_
  refine lv_iadd hx hb dX0_sureIn_4 ?_
  refine lv_topi (fun x3_1 ex3_1 => ?_)
  replace h := md_le ex3_1 h
  refine lv_istore_n (lv' := [(3, .int x3_1), (0, .ref so), (1, .int p1), (2, .int p2)]) hx hb dX0_sureIn_5 rfl hl (by decide) rfl (fun ls hl => ?_)
  refine lv_iload_n hx hb dX0_sureIn_6 rfl (lv_at hl 0 rfl) ?_
  refine lv_if_lt (tgt := 25) hx hb dX0_sureIn_7 (by decide) (fun c2 => ?_) (fun c2 => ?_)
  · replace h := md_t c2 h
    refine lv_iconst (v := 0) hx hb dX0_sureIn_25 (by decide) ?_
    exact hQ (0 : Int32) 26 ls h dX0_sureIn_26
  replace h := md_f c2 h
  refine lv_iload_n hx hb dX0_sureIn_10 rfl (lv_at hl 0 rfl) ?_
  refine lv_bipush (v := 24) hx hb dX0_sureIn_11 (by decide) ?_
  refine lv_icmp_ge (tgt := 25) hx hb dX0_sureIn_13 (by decide) (fun c3 => ?_) (fun c3 => ?_)
  · replace h := md_t c3 h
    refine lv_iconst (v := 0) hx hb dX0_sureIn_25 (by decide) ?_
    exact hQ (0 : Int32) 26 ls h dX0_sureIn_26
  replace h := md_f c3 h
  refine lv_aload_n hx hb dX0_sureIn_16 rfl (lv_at hl 1 rfl) ?_
  refine va_get (D := D) (ci := 0) (v := .ref s_certain_a) (C := RX0) (T := TX0) (N := 9) hx hb hts wi_X0_sureIn_X0 hown hK hP 0 rfl rfl 3 (by decide) (hts _ wm_X0_sureIn_0) (fun _ h9 => h9) rfl dX0_sureIn_17 ?_
  refine lv_iload_n hx hb dX0_sureIn_20 rfl (lv_at hl 0 rfl) ?_
  obtain ⟨hin4, h⟩ := md_g h
  refine va_iald hx hb hK hP 4 0 rfl rfl hin4 dX0_sureIn_21 ?_
  refine lv_goto (tgt := 26) hx hb dX0_sureIn_22 (by decide) ?_
  exact hQ (s_certain (Int32.toNatClampNeg x3_1)) 26 ls h dX0_sureIn_26
set_option maxHeartbeats 4000000 in
theorem ctX0_sureIn (l : Launch) {D : va_G} {cI cT : ClassId} {so s_heldRows_a s_heldColumns_a s_heldSixties_a s_certain_a : Nat} {s_heldRows : Nat → Int32} {s_heldColumns : Nat → Int32} {s_heldSixties : Nat → Int32} {s_certain : Nat → Int32} {s_heldCount : Int32} {s_rows : Int32} {s_kind : Int32} {s_n : Int32} {s_first : Int32} {p1 : Int32} {p2 : Int32} {res : Int32} (hm : mX0_sureIn s_certain p1 p2 = some res) : Met l yX0_sureIn wsX0_sureIn rmX0_sureIn (va_Pc [.ref so, .int p1, .int p2] (kW D cI cT [(so, .inr (0, [.ref s_heldRows_a, .ref s_heldColumns_a, .ref s_heldSixties_a, .ref s_certain_a, .int s_heldCount, .int s_rows, .int s_kind, .int s_n, .int s_first])), (s_heldRows_a, .inl (cI, 24, .inl s_heldRows)), (s_heldColumns_a, .inl (cI, 24, .inl s_heldColumns)), (s_heldSixties_a, .inl (cI, 24, .inl s_heldSixties)), (s_certain_a, .inl (cI, 24, .inl s_certain))] none (fun _ => False))) (kR (.int res)) 0 0 (fun _ => False) :=
  km (by decide) rfl (Nat.le_of_ble_eq_true rfl) (fun p e s m below meth c ls C hB hl => bX0_sureIn C p1 p2 hB.1 s_heldRows s_heldColumns s_heldSixties s_certain s_heldCount s_rows s_kind s_n s_first hB.2.1 res (fun v pc ls h hd => kr_i C h hd) hm ls hl)
