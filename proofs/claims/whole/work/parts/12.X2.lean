theorem kdX2_isTable : yX2_isTable.cls ≠ "java/lang/invoke/MethodHandle" ∧ yX2_isTable.cls ≠ "java/lang/invoke/VarHandle" ∧ (parseMethodDescriptor yX2_isTable.desc).map (fun d => d.parameters.length) = some 2 := by decide +kernel
abbrev rmX2_isTable : Room := { frames := 0, cells := 0, slots := 0, locals := 0 }
def mX2_isTable (p1 : Int32) (p2 : Int32) : Option Int32 := (if p1 = 0 then (if p2 < (1 : Int32) then (some (0 : Int32)) else (if (59 : Int32) < p2 then (some (0 : Int32)) else (some (1 : Int32)))) else (if p1 ≤ 0 then (some (0 : Int32)) else (if (4 : Int32) ≤ p1 then (some (0 : Int32)) else (if p2 = 0 then (some (1 : Int32)) else (some (0 : Int32))))))
set_option maxHeartbeats 4000000 in
set_option maxRecDepth 100000 in
theorem bX2_isTable {p : Program} {l : Launch} {e : Env} {s : State} {m : MethodId} {args : Array Value} {below : List Frame} {meth : Method} {c : Code} {Q : State → Prop} (C : kc p s m args meth c cX2_isTable 2 RX2 yX2_isTable.name wsX2_isTable (some .boolean)) (p1 : Int32) (p2 : Int32) (res : Int32) (hQ : ∀ (v : Int32) (pc : Nat) (ls : Array Slot), v = 0 ∨ v = 1 → some v = some res → decode cX2_isTable pc = .ok (.ireturn, 1) → W p l e rmX2_isTable s m args below meth c s.heap [] 0 0 Q (F0 m pc ls [.int v])) : mX2_isTable p1 p2 = some res → ∀ (ls : Array Slot), lv_has ls 2 [(0, .int p1), (1, .int p2)] → W p l e rmX2_isTable s m args below meth c s.heap [] 0 0 Q (F0 m 0 ls []) := by
  intro h ls hl
  have C0 := C
  obtain ⟨hx, hb, hml, hown, hts, hr, hlk, hnm⟩ := C0
  rw [mX2_isTable] at h
  refine lv_iload_n hx hb dX2_isTable_0 rfl (lv_at hl 0 rfl) ?_
  refine lv_if_ne (tgt := 21) hx hb dX2_isTable_1 (by decide) (fun c1 => ?_) (fun c1 => ?_)
  · replace h := md_f c1 h
    refine lv_iload_n hx hb dX2_isTable_21 rfl (lv_at hl 0 rfl) ?_
    refine lv_if_le (tgt := 38) hx hb dX2_isTable_22 (by decide) (fun c2 => ?_) (fun c2 => ?_)
    · replace h := md_t c2 h
      refine lv_iconst (v := 0) hx hb dX2_isTable_38 (by decide) ?_
      exact hQ (0 : Int32) 39 ls (by decide) h dX2_isTable_39
    replace h := md_f c2 h
    refine lv_iload_n hx hb dX2_isTable_25 rfl (lv_at hl 0 rfl) ?_
    refine lv_iconst (v := 4) hx hb dX2_isTable_26 (by decide) ?_
    refine lv_icmp_ge (tgt := 38) hx hb dX2_isTable_27 (by decide) (fun c3 => ?_) (fun c3 => ?_)
    · replace h := md_t c3 h
      refine lv_iconst (v := 0) hx hb dX2_isTable_38 (by decide) ?_
      exact hQ (0 : Int32) 39 ls (by decide) h dX2_isTable_39
    replace h := md_f c3 h
    refine lv_iload_n hx hb dX2_isTable_30 rfl (lv_at hl 1 rfl) ?_
    refine lv_if_ne (tgt := 38) hx hb dX2_isTable_31 (by decide) (fun c4 => ?_) (fun c4 => ?_)
    · replace h := md_f c4 h
      refine lv_iconst (v := 0) hx hb dX2_isTable_38 (by decide) ?_
      exact hQ (0 : Int32) 39 ls (by decide) h dX2_isTable_39
    replace h := md_t c4 h
    refine lv_iconst (v := 1) hx hb dX2_isTable_34 (by decide) ?_
    refine lv_goto (tgt := 39) hx hb dX2_isTable_35 (by decide) ?_
    exact hQ (1 : Int32) 39 ls (by decide) h dX2_isTable_39
  replace h := md_t c1 h
  refine lv_iload_n hx hb dX2_isTable_4 rfl (lv_at hl 1 rfl) ?_
  refine lv_iconst (v := 1) hx hb dX2_isTable_5 (by decide) ?_
  refine lv_icmp_lt (tgt := 19) hx hb dX2_isTable_6 (by decide) (fun c5 => ?_) (fun c5 => ?_)
  · replace h := md_t c5 h
    refine lv_iconst (v := 0) hx hb dX2_isTable_19 (by decide) ?_
    exact hQ (0 : Int32) 20 ls (by decide) h dX2_isTable_20
  replace h := md_f c5 h
  refine lv_iload_n hx hb dX2_isTable_9 rfl (lv_at hl 1 rfl) ?_
  refine lv_bipush (v := 59) hx hb dX2_isTable_10 (by decide) ?_
  refine lv_icmp_gt (tgt := 19) hx hb dX2_isTable_12 (by decide) (fun c6 => ?_) (fun c6 => ?_)
  · replace h := md_t c6 h
    refine lv_iconst (v := 0) hx hb dX2_isTable_19 (by decide) ?_
    exact hQ (0 : Int32) 20 ls (by decide) h dX2_isTable_20
  replace h := md_f c6 h
  refine lv_iconst (v := 1) hx hb dX2_isTable_15 (by decide) ?_
  refine lv_goto (tgt := 20) hx hb dX2_isTable_16 (by decide) ?_
  exact hQ (1 : Int32) 20 ls (by decide) h dX2_isTable_20
set_option maxHeartbeats 4000000 in
theorem ctX2_isTable (l : Launch) {p1 : Int32} {p2 : Int32} {res : Int32} (hm : mX2_isTable p1 p2 = some res) : Met l yX2_isTable wsX2_isTable rmX2_isTable (va_Pc [.int p1, .int p2] (fun _ => True)) (kR (.int res)) 0 0 (fun _ => False) :=
  km (by decide) rfl (Nat.le_of_ble_eq_true rfl) (fun p e s m below meth c ls C hB hl => bX2_isTable C p1 p2 res (fun v pc ls hz h hd => kr_z C hz h hd) hm ls hl)
theorem kdX2_rowsOf : yX2_rowsOf.cls ≠ "java/lang/invoke/MethodHandle" ∧ yX2_rowsOf.cls ≠ "java/lang/invoke/VarHandle" ∧ (parseMethodDescriptor yX2_rowsOf.desc).map (fun d => d.parameters.length) = some 1 := by decide +kernel
abbrev rmX2_rowsOf : Room := { frames := 1, cells := 0, slots := 0, locals := 19 }
def mX2_rowsOf (p1 : Int32) : Option Int32 := (if p1 = (1 : Int32) then (Option.bind (mX4_listRows) (fun u2 => (some u2))) else (if p1 = (3 : Int32) then (some (40 : Int32)) else (some (59 : Int32))))
set_option maxHeartbeats 4000000 in
set_option maxRecDepth 100000 in
theorem bX2_rowsOf {p : Program} {l : Launch} {e : Env} {s : State} {m : MethodId} {args : Array Value} {below : List Frame} {meth : Method} {c : Code} {Q : State → Prop} (C : kc p s m args meth c cX2_rowsOf 1 RX2 yX2_rowsOf.name wsX2_rowsOf (some .int)) {D : va_G} {cI cT : ClassId} {aL : Nat} (p1 : Int32) (hK : va_K D vwCl (kTy cI cT) s) (hLz : kLz aL (fun _ => False) s s.heap) (hP : va_P D vwCl [] s.heap) (res : Int32) (hQ : ∀ (v : Int32) (pc : Nat) (ls : Array Slot), some v = some res → decode cX2_rowsOf pc = .ok (.ireturn, 1) → W p l e rmX2_rowsOf s m args below meth c s.heap [] 0 0 Q (F0 m pc ls [.int v])) : mX2_rowsOf p1 = some res → ∀ (ls : Array Slot), lv_has ls 1 [(0, .int p1)] → W p l e rmX2_rowsOf s m args below meth c s.heap [] 0 0 Q (F0 m 0 ls []) := by
  intro h ls hl
  have C0 := C
  obtain ⟨hx, hb, hml, hown, hts, hr, hlk, hnm⟩ := C0
  rw [mX2_rowsOf] at h
  refine lv_iload_n hx hb dX2_rowsOf_0 rfl (lv_at hl 0 rfl) ?_
  by_cases c1 : p1 = (1 : Int32)
  · replace h := md_t c1 h
    refine lv_lookup (tgt := 28) hx hb dX2_rowsOf_1 (by decide) (by rw [c1] <;> rfl) (by decide) ?_
    obtain ⟨u2, hu2, h⟩ := md_b h
    refine kS C (ctX4_listRows l  hu2) gX2_rowsOf_X4_listRows rfl kdX4_listRows ⟨rfl, rfl⟩ ⟨by decide, by decide⟩ kW_blind (kW_use hK va_P0 (kL_ro hLz (fun _ q => q))) rfl hl [] rfl (Nat.le_of_ble_eq_true rfl) dX2_rowsOf_28 ⟨by decide, by decide⟩ ?_
    exact hQ u2 31 ls h dX2_rowsOf_31
  replace h := md_f c1 h
  by_cases c3 : p1 = (3 : Int32)
  · replace h := md_t c3 h
    refine lv_lookup (tgt := 32) hx hb dX2_rowsOf_1 (by decide) (by rw [c3] <;> rfl) (by decide) ?_
    refine lv_bipush (v := 40) hx hb dX2_rowsOf_32 (by decide) ?_
    exact hQ (40 : Int32) 34 ls h dX2_rowsOf_34
  replace h := md_f c3 h
  have tc1 := lv_neT (a := 1) c1 (by decide)
  have tc3 := lv_neT (a := 3) c3 (by decide)
  refine lv_lookup (tgt := 35) (off := 34) hx hb dX2_rowsOf_1 (by decide) (by rw [lv_osw c1 (by decide)]; rw [lv_osw c3 (by decide)]; rfl) (by decide) ?_
  refine lv_bipush (v := 59) hx hb dX2_rowsOf_35 (by decide) ?_
  exact hQ (59 : Int32) 37 ls h dX2_rowsOf_37
set_option maxHeartbeats 4000000 in
theorem ctX2_rowsOf (l : Launch) {D : va_G} {cI cT : ClassId} {aL : Nat} {p1 : Int32} {res : Int32} (hm : mX2_rowsOf p1 = some res) : Met l yX2_rowsOf wsX2_rowsOf rmX2_rowsOf (va_Pc [.int p1] (kW D cI cT [] (some aL) (fun _ => False))) (kR (.int res)) 0 0 (fun _ => False) :=
  km (by decide) rfl (Nat.le_of_ble_eq_true rfl) (fun p e s m below meth c ls C hB hl => bX2_rowsOf C p1 hB.1 (hB.2.2 aL rfl) hB.2.1 res (fun v pc ls h hd => kr_i C h hd) hm ls hl)
theorem kdX2_listColumn : yX2_listColumn.cls ≠ "java/lang/invoke/MethodHandle" ∧ yX2_listColumn.cls ≠ "java/lang/invoke/VarHandle" ∧ (parseMethodDescriptor yX2_listColumn.desc).map (fun d => d.parameters.length) = some 2 := by decide +kernel
abbrev rmX2_listColumn : Room := { frames := 3, cells := 0, slots := 0, locals := 68 }
def mX2_listColumn (p1 : Int32) (p2 : Int32) : Option Int32 := (Option.bind (mX4_listed p1) (fun u1 => (if p2 = 0 then (some u1) else (Option.bind (mX4_turnOver (Int32.toInt64 u1)) (fun u3 => (some (Int64.toInt32 u3)))))))
set_option maxHeartbeats 4000000 in
set_option maxRecDepth 100000 in
theorem bX2_listColumn {p : Program} {l : Launch} {e : Env} {s : State} {m : MethodId} {args : Array Value} {below : List Frame} {meth : Method} {c : Code} {Q : State → Prop} (C : kc p s m args meth c cX2_listColumn 3 RX2 yX2_listColumn.name wsX2_listColumn (some .int)) {D : va_G} {cI cT : ClassId} {aL : Nat} (p1 : Int32) (p2 : Int32) (hK : va_K D vwCl (kTy cI cT) s) (hLz : kLz aL (fun _ => False) s s.heap) (hP : va_P D vwCl [] s.heap) (res : Int32) (hQ : ∀ (v : Int32) (pc : Nat) (ls : Array Slot), some v = some res → decode cX2_listColumn pc = .ok (.ireturn, 1) → W p l e rmX2_listColumn s m args below meth c s.heap [] 0 0 Q (F0 m pc ls [.int v])) : mX2_listColumn p1 p2 = some res → ∀ (ls : Array Slot), lv_has ls 3 [(0, .int p1), (1, .int p2)] → W p l e rmX2_listColumn s m args below meth c s.heap [] 0 0 Q (F0 m 0 ls []) := by
  intro h ls hl
  have C0 := C
  obtain ⟨hx, hb, hml, hown, hts, hr, hlk, hnm⟩ := C0
  rw [mX2_listColumn] at h
  refine lv_iload_n hx hb dX2_listColumn_0 rfl (lv_at hl 0 rfl) ?_
  obtain ⟨u1, hu1, h⟩ := md_b h
  refine kS C (ctX4_listed l  hu1) gX2_listColumn_X4_listed rfl kdX4_listed ⟨rfl, rfl⟩ ⟨by decide, by decide⟩ kW_blind (kW_use hK va_P0 (kL_ro hLz (fun _ q => q))) rfl hl [] rfl (Nat.le_of_ble_eq_true rfl) dX2_listColumn_1 ⟨by decide, by decide⟩ ?_
  refine lv_istore_n (lv' := [(2, .int u1), (0, .int p1), (1, .int p2)]) hx hb dX2_listColumn_4 rfl hl (by decide) rfl (fun ls hl => ?_)
  refine lv_iload_n hx hb dX2_listColumn_5 rfl (lv_at hl 2 rfl) ?_
  refine lv_if_ne (tgt := 13) hx hb dX2_listColumn_6 (by decide) (fun c2 => ?_) (fun c2 => ?_)
  · replace h := md_f c2 h
    refine lv_iload_n hx hb dX2_listColumn_13 rfl (lv_at hl 0 rfl) ?_
    refine lv_i2l hx hb dX2_listColumn_14 rfl ?_
    obtain ⟨u3, hu3, h⟩ := md_b h
    refine kS C (ctX4_turnOver l  hu3) gX2_listColumn_X4_turnOver rfl kdX4_turnOver ⟨rfl, rfl⟩ ⟨by decide, by decide⟩ kT_blind (fun _ _ _ => trivial) rfl hl [] rfl (Nat.le_of_ble_eq_true rfl) dX2_listColumn_15 ⟨by decide, by decide⟩ ?_
    refine lv_l2i hx hb dX2_listColumn_18 rfl ?_
    exact hQ (Int64.toInt32 u3) 19 ls h dX2_listColumn_19
  replace h := md_t c2 h
  refine lv_iload_n hx hb dX2_listColumn_9 rfl (lv_at hl 0 rfl) ?_
  refine lv_goto (tgt := 19) hx hb dX2_listColumn_10 (by decide) ?_
  exact hQ u1 19 ls h dX2_listColumn_19
set_option maxHeartbeats 4000000 in
theorem ctX2_listColumn (l : Launch) {D : va_G} {cI cT : ClassId} {aL : Nat} {p1 : Int32} {p2 : Int32} {res : Int32} (hm : mX2_listColumn p1 p2 = some res) : Met l yX2_listColumn wsX2_listColumn rmX2_listColumn (va_Pc [.int p1, .int p2] (kW D cI cT [] (some aL) (fun _ => False))) (kR (.int res)) 0 0 (fun _ => False) :=
  km (by decide) rfl (Nat.le_of_ble_eq_true rfl) (fun p e s m below meth c ls C hB hl => bX2_listColumn C p1 p2 hB.1 (hB.2.2 aL rfl) hB.2.1 res (fun v pc ls h hd => kr_i C h hd) hm ls hl)
theorem kdX2_number : yX2_number.cls ≠ "java/lang/invoke/MethodHandle" ∧ yX2_number.cls ≠ "java/lang/invoke/VarHandle" ∧ (parseMethodDescriptor yX2_number.desc).map (fun d => d.parameters.length) = some 4 := by decide +kernel
abbrev rmX2_number : Room := { frames := 4, cells := 0, slots := 0, locals := 90 }
def mX2_number (p1 : Int32) (p2 : Int32) (p3 : Int32) (p4 : Int32) : Option Int32 := (md_let (p3 + (1 : Int32)) (fun (x4_1 : Int32) => (if p1 = (0 : Int32) then (if p4 = 0 then (some p2) else (if p4 = (1 : Int32) then (some x4_1) else (some (p2 * x4_1)))) else (if p1 = (1 : Int32) then (if p4 = (2 : Int32) then (some (1 : Int32)) else (Option.bind (mX2_listColumn p3 p4) (fun u7 => (some u7)))) else (if p1 = (2 : Int32) then (if (2 : Int32) ≤ p4 then (some (x4_1 * x4_1)) else (some x4_1)) else (if p4 = 0 then (some x4_1) else (if p4 = (1 : Int32) then (some (x4_1 * x4_1)) else (some ((x4_1 * x4_1) * x4_1)))))))))
set_option maxHeartbeats 4000000 in
set_option maxRecDepth 100000 in
theorem bX2_number {p : Program} {l : Launch} {e : Env} {s : State} {m : MethodId} {args : Array Value} {below : List Frame} {meth : Method} {c : Code} {Q : State → Prop} (C : kc p s m args meth c cX2_number 5 RX2 yX2_number.name wsX2_number (some .int)) {D : va_G} {cI cT : ClassId} {aL : Nat} (p1 : Int32) (p2 : Int32) (p3 : Int32) (p4 : Int32) (hK : va_K D vwCl (kTy cI cT) s) (hLz : kLz aL (fun _ => False) s s.heap) (hP : va_P D vwCl [] s.heap) (res : Int32) (hQ : ∀ (v : Int32) (pc : Nat) (ls : Array Slot), some v = some res → decode cX2_number pc = .ok (.ireturn, 1) → W p l e rmX2_number s m args below meth c s.heap [] 0 0 Q (F0 m pc ls [.int v])) : mX2_number p1 p2 p3 p4 = some res → ∀ (ls : Array Slot), lv_has ls 5 [(0, .int p1), (1, .int p2), (2, .int p3), (3, .int p4)] → W p l e rmX2_number s m args below meth c s.heap [] 0 0 Q (F0 m 0 ls []) := by
  intro h ls hl
  have C0 := C
  obtain ⟨hx, hb, hml, hown, hts, hr, hlk, hnm⟩ := C0
  rw [mX2_number] at h
  refine lv_iload_n hx hb dX2_number_0 rfl (lv_at hl 2 rfl) ?_
  refine lv_iconst (v := 1) hx hb dX2_number_1 (by decide) ?_
  refine lv_iadd hx hb dX2_number_2 ?_
  refine lv_topi (fun x4_1 ex4_1 => ?_)
  replace h := md_le ex4_1 h
  refine lv_istore (lv' := [(4, .int x4_1), (0, .int p1), (1, .int p2), (2, .int p3), (3, .int p4)]) hx hb dX2_number_3 hl (by decide) rfl (fun ls hl => ?_)
  refine lv_iload_n hx hb dX2_number_5 rfl (lv_at hl 1 rfl) ?_
  by_cases c2 : p1 = (0 : Int32)
  · replace h := md_t c2 h
    refine lv_tableIn (tgt := 32) hx hb dX2_number_6 (by rw [c2]; decide) (by rw [c2]; decide) (by rw [c2]; rfl) (by decide) ?_
    refine lv_iload_n hx hb dX2_number_32 rfl (lv_at hl 4 rfl) ?_
    refine lv_if_ne (tgt := 40) hx hb dX2_number_33 (by decide) (fun c3 => ?_) (fun c3 => ?_)
    · replace h := md_f c3 h
      refine lv_iload_n hx hb dX2_number_40 rfl (lv_at hl 4 rfl) ?_
      refine lv_iconst (v := 1) hx hb dX2_number_41 (by decide) ?_
      refine lv_icmp_ne (tgt := 50) hx hb dX2_number_42 (by decide) (fun c4 => ?_) (fun c4 => ?_)
      · replace h := md_f c4 h
        refine lv_iload_n hx hb dX2_number_50 rfl (lv_at hl 2 rfl) ?_
        refine lv_iload hx hb dX2_number_51 (lv_at hl 0 rfl) ?_
        refine lv_imul hx hb dX2_number_53 ?_
        exact hQ (p2 * x4_1) 54 ls h dX2_number_54
      replace h := md_t c4 h
      refine lv_iload hx hb dX2_number_45 (lv_at hl 0 rfl) ?_
      refine lv_goto (tgt := 54) hx hb dX2_number_47 (by decide) ?_
      exact hQ x4_1 54 ls h dX2_number_54
    replace h := md_t c3 h
    refine lv_iload_n hx hb dX2_number_36 rfl (lv_at hl 2 rfl) ?_
    refine lv_goto (tgt := 54) hx hb dX2_number_37 (by decide) ?_
    exact hQ p2 54 ls h dX2_number_54
  replace h := md_f c2 h
  by_cases c5 : p1 = (1 : Int32)
  · replace h := md_t c5 h
    refine lv_tableIn (tgt := 55) hx hb dX2_number_6 (by rw [c5]; decide) (by rw [c5]; decide) (by rw [c5]; rfl) (by decide) ?_
    refine lv_iload_n hx hb dX2_number_55 rfl (lv_at hl 4 rfl) ?_
    refine lv_iconst (v := 2) hx hb dX2_number_56 (by decide) ?_
    refine lv_icmp_ne (tgt := 64) hx hb dX2_number_57 (by decide) (fun c6 => ?_) (fun c6 => ?_)
    · replace h := md_f c6 h
      refine lv_iload_n hx hb dX2_number_64 rfl (lv_at hl 3 rfl) ?_
      refine lv_iload_n hx hb dX2_number_65 rfl (lv_at hl 4 rfl) ?_
      obtain ⟨u7, hu7, h⟩ := md_b h
      refine kS C (ctX2_listColumn l  hu7) gX2_number_X2_listColumn rfl kdX2_listColumn ⟨rfl, rfl⟩ ⟨by decide, by decide⟩ kW_blind (kW_use hK va_P0 (kL_ro hLz (fun _ q => q))) rfl hl [] rfl (Nat.le_of_ble_eq_true rfl) dX2_number_66 ⟨by decide, by decide⟩ ?_
      exact hQ u7 69 ls h dX2_number_69
    replace h := md_t c6 h
    refine lv_iconst (v := 1) hx hb dX2_number_60 (by decide) ?_
    refine lv_goto (tgt := 69) hx hb dX2_number_61 (by decide) ?_
    exact hQ (1 : Int32) 69 ls h dX2_number_69
  replace h := md_f c5 h
  by_cases c8 : p1 = (2 : Int32)
  · replace h := md_t c8 h
    refine lv_tableIn (tgt := 70) hx hb dX2_number_6 (by rw [c8]; decide) (by rw [c8]; decide) (by rw [c8]; rfl) (by decide) ?_
    refine lv_iload_n hx hb dX2_number_70 rfl (lv_at hl 4 rfl) ?_
    refine lv_iconst (v := 2) hx hb dX2_number_71 (by decide) ?_
    refine lv_icmp_ge (tgt := 80) hx hb dX2_number_72 (by decide) (fun c9 => ?_) (fun c9 => ?_)
    · replace h := md_t c9 h
      refine lv_iload hx hb dX2_number_80 (lv_at hl 0 rfl) ?_
      refine lv_iload hx hb dX2_number_82 (lv_at hl 0 rfl) ?_
      refine lv_imul hx hb dX2_number_84 ?_
      exact hQ (x4_1 * x4_1) 85 ls h dX2_number_85
    replace h := md_f c9 h
    refine lv_iload hx hb dX2_number_75 (lv_at hl 0 rfl) ?_
    refine lv_goto (tgt := 85) hx hb dX2_number_77 (by decide) ?_
    exact hQ x4_1 85 ls h dX2_number_85
  replace h := md_f c8 h
  have tc2 := lv_neT (a := 0) c2 (by decide)
  have tc5 := lv_neT (a := 1) c5 (by decide)
  have tc8 := lv_neT (a := 2) c8 (by decide)
  refine lv_tableOut (tgt := 86) hx hb dX2_number_6 (by omega) (by decide) ?_
  refine lv_iload_n hx hb dX2_number_86 rfl (lv_at hl 4 rfl) ?_
  refine lv_if_ne (tgt := 95) hx hb dX2_number_87 (by decide) (fun c10 => ?_) (fun c10 => ?_)
  · replace h := md_f c10 h
    refine lv_iload_n hx hb dX2_number_95 rfl (lv_at hl 4 rfl) ?_
    refine lv_iconst (v := 1) hx hb dX2_number_96 (by decide) ?_
    refine lv_icmp_ne (tgt := 108) hx hb dX2_number_97 (by decide) (fun c11 => ?_) (fun c11 => ?_)
    · replace h := md_f c11 h
      refine lv_iload hx hb dX2_number_108 (lv_at hl 0 rfl) ?_
      refine lv_iload hx hb dX2_number_110 (lv_at hl 0 rfl) ?_
      refine lv_imul hx hb dX2_number_112 ?_
      refine lv_iload hx hb dX2_number_113 (lv_at hl 0 rfl) ?_
      refine lv_imul hx hb dX2_number_115 ?_
      exact hQ ((x4_1 * x4_1) * x4_1) 116 ls h dX2_number_116
    replace h := md_t c11 h
    refine lv_iload hx hb dX2_number_100 (lv_at hl 0 rfl) ?_
    refine lv_iload hx hb dX2_number_102 (lv_at hl 0 rfl) ?_
    refine lv_imul hx hb dX2_number_104 ?_
    refine lv_goto (tgt := 116) hx hb dX2_number_105 (by decide) ?_
    exact hQ (x4_1 * x4_1) 116 ls h dX2_number_116
  replace h := md_t c10 h
  refine lv_iload hx hb dX2_number_90 (lv_at hl 0 rfl) ?_
  refine lv_goto (tgt := 116) hx hb dX2_number_92 (by decide) ?_
  exact hQ x4_1 116 ls h dX2_number_116
set_option maxHeartbeats 4000000 in
theorem ctX2_number (l : Launch) {D : va_G} {cI cT : ClassId} {aL : Nat} {p1 : Int32} {p2 : Int32} {p3 : Int32} {p4 : Int32} {res : Int32} (hm : mX2_number p1 p2 p3 p4 = some res) : Met l yX2_number wsX2_number rmX2_number (va_Pc [.int p1, .int p2, .int p3, .int p4] (kW D cI cT [] (some aL) (fun _ => False))) (kR (.int res)) 0 0 (fun _ => False) :=
  km (by decide) rfl (Nat.le_of_ble_eq_true rfl) (fun p e s m below meth c ls C hB hl => bX2_number C p1 p2 p3 p4 hB.1 (hB.2.2 aL rfl) hB.2.1 res (fun v pc ls h hd => kr_i C h hd) hm ls hl)
