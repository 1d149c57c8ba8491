theorem kdX2_isTable : yX2_isTable.cls ≠ "java/lang/invoke/MethodHandle" ∧ yX2_isTable.cls ≠ "java/lang/invoke/VarHandle" ∧ (parseMethodDescriptor yX2_isTable.desc).map (fun d => d.parameters.length) = some 2 := by decide +kernel
abbrev rmX2_isTable : Room := { frames := 0, cells := 0, slots := 0, locals := 0 }
def mX2_isTable (p1 : Int32) (p2 : Int32) : Option Int32 := (if p1 = 0 then (if p2 < (1 : Int32) then (some (0 : Int32)) else (if (59 : Int32) < p2 then (some (0 : Int32)) else (some (1 : Int32)))) else (if p1 ≤ 0 then (some (0 : Int32)) else (if (4 : Int32) ≤ p1 then (some (0 : Int32)) else (if p2 = 0 then (some (1 : Int32)) else (some (0 : Int32))))))
set_option maxHeartbeats 4000000 in
set_option maxRecDepth 100000 in
theorem bX2_isTable {p : Program} {l : Launch} {e : Env} {s : State} {m : MethodId} {args : Array Value} {below : List Frame} {meth : Method} {c : Code} {Q : State → Prop} (C : kc p s m args meth c cX2_isTable 2 RX2 yX2_isTable.name wsX2_isTable (some .boolean)) (p1 : Int32) (p2 : Int32) (res : Int32) (hQ : ∀ (v : Int32) (pc : Nat) (ls : Array Slot), v = 0 ∨ v = 1 → some v = some res → decode cX2_isTable pc = .ok (.ireturn, 1) → W p l e rmX2_isTable s m args below meth c s.heap [] 0 0 Q (F0 m pc ls [.int v])) : mX2_isTable p1 p2 = some res → ∀ (ls : Array Slot), lv_has ls 2 [(0, .int p1), (1, .int p2)] → W p l e rmX2_isTable s m args below meth c s.heap [] 0 0 Q (F0 m 0 ls []) := by
  intro h ls hl
  have C0 := C
  obtain ⟨hx, hb, hml, hown, hts, hr, hlk, hnm⟩ := C0
  rw [mX2_isTable] at h
  refine lv_iload_n hx hb dX2_isTable_0 rfl (lv_at hl 0 rfl) ?_
  refine lv_if_ne (tgt := 21) hx hb dX2_isTable_1 (by decide) (fun c1 => ?_) (fun c1 => ?_)
  · replace h := md_f c1 h
    refine lv_iload_n hx hb dX2_isTable_21 rfl (lv_at hl 0 rfl) ?_
    refine lv_if_le (tgt := 38) hx hb dX2_isTable_22 (by decide) (fun c2 => ?_) (fun c2 => ?_)
    · replace h := md_t c2 h
      refine lv_iconst (v := 0) hx hb dX2_isTable_38 (by decide) ?_
      exact hQ (0 : Int32) 39 ls (by decide) h dX2_isTable_39
    replace h := md_f c2 h
    refine lv_iload_n hx hb dX2_isTable_25 rfl (lv_at hl 0 rfl) ?_
    refine lv_iconst (v := 4) hx hb dX2_isTable_26 (by decide) ?_
    refine lv_icmp_ge (tgt := 38) hx hb dX2_isTable_27 (by decide) (fun c3 => ?_) (fun c3 => ?_)
    · replace h := md_t c3 h
      refine lv_iconst (v := 0) hx hb dX2_isTable_38 (by decide) ?_
      exact hQ (0 : Int32) 39 ls (by decide) h dX2_isTable_39
    replace h := md_f c3 h
    refine lv_iload_n hx hb dX2_isTable_30 rfl (lv_at hl 1 rfl) ?_
    refine lv_if_ne (tgt := 38) hx hb dX2_isTable_31 (by decide) (fun c4 => ?_) (fun c4 => ?_)
    · replace h := md_f c4 h
      refine lv_iconst (v := 0) hx hb dX2_isTable_38 (by decide) ?_
      exact hQ (0 : Int32) 39 ls (by decide) h dX2_isTable_39
    replace h := md_t c4 h
    refine lv_iconst (v := 1) hx hb dX2_isTable_34 (by decide) ?_
    refine lv_goto (tgt := 39) hx hb dX2_isTable_35 (by decide) ?_
    exact hQ (1 : Int32) 39 ls (by decide) h dX2_isTable_39
  replace h := md_t c1 h
  refine lv_iload_n hx hb dX2_isTable_4 rfl (lv_at hl 1 rfl) ?_
  refine lv_iconst (v := 1) hx hb dX2_isTable_5 (by decide) ?_
  refine lv_icmp_lt (tgt := 19) hx hb dX2_isTable_6 (by decide) (fun c5 => ?_) (fun c5 => ?_)
  · replace h := md_t c5 h
    refine lv_iconst (v := 0) hx hb dX2_isTable_19 (by decide) ?_
    exact hQ (0 : Int32) 20 ls (by decide) h dX2_isTable_20
  replace h := md_f c5 h
  refine lv_iload_n hx hb dX2_isTable_9 rfl (lv_at hl 1 rfl) ?_
  refine lv_bipush (v := 59) hx hb dX2_isTable_10 (by decide) ?_
  refine lv_icmp_gt (tgt := 19) hx hb dX2_isTable_12 (by decide) (fun c6 => ?_) (fun c6 => ?_)
  · replace h := md_t c6 h
    refine lv_iconst (v := 0) hx hb dX2_isTable_19 (by decide) ?_
    exact hQ (0 : Int32) 20 ls (by decide) h dX2_isTable_20
  replace h := md_f c6 h
  refine lv_iconst (v := 1) hx hb dX2_isTable_15 (by decide) ?_
  refine lv_goto (tgt := 20) hx hb dX2_isTable_16 (by decide) ?_
  exact hQ (1 : Int32) 20 ls (by decide) h dX2_isTable_20
set_option maxHeartbeats 4000000 in
theorem ctX2_isTable (l : Launch) {p1 : Int32} {p2 : Int32} {res : Int32} (hm : mX2_isTable p1 p2 = some res) : Met l yX2_isTable wsX2_isTable rmX2_isTable (va_Pc [.int p1, .int p2] (fun _ => True)) (kR (.int res)) 0 0 (fun _ => False) :=
  km (by decide) rfl (Nat.le_of_ble_eq_true rfl) (fun p e s m below meth c ls C hB hl => bX2_isTable C p1 p2 res (fun v pc ls hz h hd => kr_z C hz h hd) hm ls hl)
theorem kdX2_rowsOf : yX2_rowsOf.cls ≠ "java/lang/invoke/MethodHandle" ∧ yX2_rowsOf.cls ≠ "java/lang/invoke/VarHandle" ∧ (parseMethodDescriptor yX2_rowsOf.desc).map (fun d => d.parameters.length) = some 1 := by decide +kernel
abbrev rmX2_rowsOf : Room := { frames := 1, cells := 0, slots := 0, locals := 19 }
def mX2_rowsOf (p1 : Int32) : Option Int32 := (if p1 = (1 : Int32) then (Option.bind (mX4_listRows) (fun u2 => (some u2))) else (if p1 = (3 : Int32) then (some (40 : Int32)) else (some (59 : Int32))))
set_option maxHeartbeats 4000000 in
set_option maxRecDepth 100000 in
theorem bX2_rowsOf {p : Program} {l : Launch} {e : Env} {s : State} {m : MethodId} {args : Array Value} {below : List Frame} {meth : Method} {c : Code} {Q : State → Prop} (C : kc p s m args meth c cX2_rowsOf 1 RX2 yX2_rowsOf.name wsX2_rowsOf (some .int)) {D : va_G} {cI cT : ClassId} {aL : Nat × Nat} (p1 : Int32) (hK : va_K D vwCl (kTy cI cT) s) (hLz : kLz aL (fun _ => False) s s.heap) (hP : va_P D vwCl [] s.heap) (res : Int32) (hQ : ∀ (v : Int32) (pc : Nat) (ls : Array Slot), some v = some res → decode cX2_rowsOf pc = .ok (.ireturn, 1) → W p l e rmX2_rowsOf s m args below meth c s.heap [] 0 0 Q (F0 m pc ls [.int v])) : mX2_rowsOf p1 = some res → ∀ (ls : Array Slot), lv_has ls 1 [(0, .int p1)] → W p l e rmX2_rowsOf s m args below meth c s.heap [] 0 0 Q (F0 m 0 ls []) := by
  intro h ls hl
  have C0 := C
  obtain ⟨hx, hb, hml, hown, hts, hr, hlk, hnm⟩ := C0
  rw [mX2_rowsOf] at h
  refine lv_iload_n hx hb dX2_rowsOf_0 rfl (lv_at hl 0 rfl) ?_
  by_cases c1 : p1 = (1 : Int32)
  · replace h := md_t c1 h
    refine lv_lookup (tgt := 28) hx hb dX2_rowsOf_1 (by decide) (by rw [c1] <;> rfl) (by decide) ?_
    obtain ⟨u2, hu2, h⟩ := md_b h
    refine kS C (ctX4_listRows l  hu2) gX2_rowsOf_X4_listRows rfl kdX4_listRows ⟨rfl, rfl⟩ ⟨by decide, by decide⟩ kW_blind (kW_use hK va_P0 (kL_ro hLz (fun _ q => q))) rfl hl [] rfl (Nat.le_of_ble_eq_true rfl) dX2_rowsOf_28 ⟨by decide, by decide⟩ ?_
    exact hQ u2 31 ls h dX2_rowsOf_31
  replace h := md_f c1 h
  by_cases c3 : p1 = (3 : Int32)
  · replace h := md_t c3 h
    refine lv_lookup (tgt := 32) hx hb dX2_rowsOf_1 (by decide) (by rw [c3] <;> rfl) (by decide) ?_
    refine lv_bipush (v := 40) hx hb dX2_rowsOf_32 (by decide) ?_
    exact hQ (40 : Int32) 34 ls h dX2_rowsOf_34
  replace h := md_f c3 h
  have tc1 := lv_neT (a := 1) c1 (by decide)
  have tc3 := lv_neT (a := 3) c3 (by decide)
  refine lv_lookup (tgt := 35) (off := 34) hx hb dX2_rowsOf_1 (by decide) (by rw [lv_osw c1 (by decide)]; rw [lv_osw c3 (by decide)]; rfl) (by decide) ?_
  refine lv_bipush (v := 59) hx hb dX2_rowsOf_35 (by decide) ?_
  exact hQ (59 : Int32) 37 ls h dX2_rowsOf_37
set_option maxHeartbeats 4000000 in
theorem ctX2_rowsOf (l : Launch) {D : va_G} {cI cT : ClassId} {aL : Nat × Nat} {p1 : Int32} {res : Int32} (hm : mX2_rowsOf p1 = some res) : Met l yX2_rowsOf wsX2_rowsOf rmX2_rowsOf (va_Pc [.int p1] (kW D cI cT [] (some aL) (fun _ => False))) (kR (.int res)) 0 0 (fun _ => False) :=
  km (by decide) rfl (Nat.le_of_ble_eq_true rfl) (fun p e s m below meth c ls C hB hl => bX2_rowsOf C p1 hB.1 (hB.2.2 aL rfl) hB.2.1 res (fun v pc ls h hd => kr_i C h hd) hm ls hl)
theorem kdX2_number : yX2_number.cls ≠ "java/lang/invoke/MethodHandle" ∧ yX2_number.cls ≠ "java/lang/invoke/VarHandle" ∧ (parseMethodDescriptor yX2_number.desc).map (fun d => d.parameters.length) = some 4 := by decide +kernel
abbrev rmX2_number : Room := { frames := 1, cells := 0, slots := 0, locals := 20 }
def mX2_number (p1 : Int32) (p2 : Int32) (p3 : Int32) (p4 : Int32) : Option Int32 := (md_let (p3 + (1 : Int32)) (fun (x4_1 : Int32) => (if p1 = (0 : Int32) then (if p4 = 0 then (some p2) else (if p4 = (1 : Int32) then (some x4_1) else (some (p2 * x4_1)))) else (if p1 = (1 : Int32) then (if p4 = 0 then (Option.bind (mX4_listed p3) (fun u9 => (some u9))) else (if p4 = (1 : Int32) then (Option.bind (mX4_listedOver p3) (fun u8 => (some u8))) else (some (1 : Int32)))) else (if p1 = (2 : Int32) then (if (2 : Int32) ≤ p4 then (some (x4_1 * x4_1)) else (some x4_1)) else (if p4 = 0 then (some x4_1) else (if p4 = (1 : Int32) then (some (x4_1 * x4_1)) else (some ((x4_1 * x4_1) * x4_1)))))))))
set_option maxHeartbeats 4000000 in
set_option maxRecDepth 100000 in
theorem bX2_number {p : Program} {l : Launch} {e : Env} {s : State} {m : MethodId} {args : Array Value} {below : List Frame} {meth : Method} {c : Code} {Q : State → Prop} (C : kc p s m args meth c cX2_number 5 RX2 yX2_number.name wsX2_number (some .int)) {D : va_G} {cI cT : ClassId} {aL : Nat × Nat} (p1 : Int32) (p2 : Int32) (p3 : Int32) (p4 : Int32) (hK : va_K D vwCl (kTy cI cT) s) (hLz : kLz aL (fun _ => False) s s.heap) (hP : va_P D vwCl [] s.heap) (res : Int32) (hQ : ∀ (v : Int32) (pc : Nat) (ls : Array Slot), some v = some res → decode cX2_number pc = .ok (.ireturn, 1) → W p l e rmX2_number s m args below meth c s.heap [] 0 0 Q (F0 m pc ls [.int v])) : mX2_number p1 p2 p3 p4 = some res → ∀ (ls : Array Slot), lv_has ls 5 [(0, .int p1), (1, .int p2), (2, .int p3), (3, .int p4)] → W p l e rmX2_number s m args below meth c s.heap [] 0 0 Q (F0 m 0 ls []) := by
  intro h ls hl
  have C0 := C
  obtain ⟨hx, hb, hml, hown, hts, hr, hlk, hnm⟩ := C0
  rw [mX2_number] at h
  refine lv_iload_n hx hb dX2_number_0 rfl (lv_at hl 2 rfl) ?_
  refine lv_iconst (v := 1) hx hb dX2_number_1 (by decide) ?_
  refine lv_iadd hx hb dX2_number_2 ?_
  refine lv_topi (fun x4_1 ex4_1 => ?_)
  replace h := md_le ex4_1 h
  refine lv_istore (lv' := [(4, .int x4_1), (0, .int p1), (1, .int p2), (2, .int p3), (3, .int p4)]) hx hb dX2_number_3 hl (by decide) rfl (fun ls hl => ?_)
  refine lv_iload_n hx hb dX2_number_5 rfl (lv_at hl 1 rfl) ?_
  by_cases c2 : p1 = (0 : Int32)
  · replace h := md_t c2 h
    refine lv_tableIn (tgt := 32) hx hb dX2_number_6 (by rw [c2]; decide) (by rw [c2]; decide) (by rw [c2]; rfl) (by decide) ?_
    refine lv_iload_n hx hb dX2_number_32 rfl (lv_at hl 4 rfl) ?_
    refine lv_if_ne (tgt := 40) hx hb dX2_number_33 (by decide) (fun c3 => ?_) (fun c3 => ?_)
    · replace h := md_f c3 h
      refine lv_iload_n hx hb dX2_number_40 rfl (lv_at hl 4 rfl) ?_
      refine lv_iconst (v := 1) hx hb dX2_number_41 (by decide) ?_
      refine lv_icmp_ne (tgt := 50) hx hb dX2_number_42 (by decide) (fun c4 => ?_) (fun c4 => ?_)
      · replace h := md_f c4 h
        refine lv_iload_n hx hb dX2_number_50 rfl (lv_at hl 2 rfl) ?_
        refine lv_iload hx hb dX2_number_51 (lv_at hl 0 rfl) ?_
        refine lv_imul hx hb dX2_number_53 ?_
        exact hQ (p2 * x4_1) 54 ls h dX2_number_54
      replace h := md_t c4 h
      refine lv_iload hx hb dX2_number_45 (lv_at hl 0 rfl) ?_
      refine lv_goto (tgt := 54) hx hb dX2_number_47 (by decide) ?_
      exact hQ x4_1 54 ls h dX2_number_54
    replace h := md_t c3 h
    refine lv_iload_n hx hb dX2_number_36 rfl (lv_at hl 2 rfl) ?_
    refine lv_goto (tgt := 54) hx hb dX2_number_37 (by decide) ?_
    exact hQ p2 54 ls h dX2_number_54
  replace h := md_f c2 h
  by_cases c5 : p1 = (1 : Int32)
  · replace h := md_t c5 h
    refine lv_tableIn (tgt := 55) hx hb dX2_number_6 (by rw [c5]; decide) (by rw [c5]; decide) (by rw [c5]; rfl) (by decide) ?_
    refine lv_iload_n hx hb dX2_number_55 rfl (lv_at hl 4 rfl) ?_
    refine lv_if_ne (tgt := 66) hx hb dX2_number_56 (by decide) (fun c6 => ?_) (fun c6 => ?_)
    · replace h := md_f c6 h
      refine lv_iload_n hx hb dX2_number_66 rfl (lv_at hl 4 rfl) ?_
      refine lv_iconst (v := 1) hx hb dX2_number_67 (by decide) ?_
      refine lv_icmp_ne (tgt := 78) hx hb dX2_number_68 (by decide) (fun c7 => ?_) (fun c7 => ?_)
      · replace h := md_f c7 h
        refine lv_iconst (v := 1) hx hb dX2_number_78 (by decide) ?_
        exact hQ (1 : Int32) 79 ls h dX2_number_79
      replace h := md_t c7 h
      refine lv_iload_n hx hb dX2_number_71 rfl (lv_at hl 3 rfl) ?_
      obtain ⟨u8, hu8, h⟩ := md_b h
      refine kS C (ctX4_listedOver l  hu8) gX2_number_X4_listedOver rfl kdX4_listedOver ⟨rfl, rfl⟩ ⟨by decide, by decide⟩ kW_blind (kW_use hK va_P0 (kL_ro hLz (fun _ q => q))) rfl hl [] rfl (Nat.le_of_ble_eq_true rfl) dX2_number_72 ⟨by decide, by decide⟩ ?_
      refine lv_goto (tgt := 79) hx hb dX2_number_75 (by decide) ?_
      exact hQ u8 79 ls h dX2_number_79
    replace h := md_t c6 h
    refine lv_iload_n hx hb dX2_number_59 rfl (lv_at hl 3 rfl) ?_
    obtain ⟨u9, hu9, h⟩ := md_b h
    refine kS C (ctX4_listed l  hu9) gX2_number_X4_listed rfl kdX4_listed ⟨rfl, rfl⟩ ⟨by decide, by decide⟩ kW_blind (kW_use hK va_P0 (kL_ro hLz (fun _ q => q))) rfl hl [] rfl (Nat.le_of_ble_eq_true rfl) dX2_number_60 ⟨by decide, by decide⟩ ?_
    refine lv_goto (tgt := 79) hx hb dX2_number_63 (by decide) ?_
    exact hQ u9 79 ls h dX2_number_79
  replace h := md_f c5 h
  by_cases c10 : p1 = (2 : Int32)
  · replace h := md_t c10 h
    refine lv_tableIn (tgt := 80) hx hb dX2_number_6 (by rw [c10]; decide) (by rw [c10]; decide) (by rw [c10]; rfl) (by decide) ?_
    refine lv_iload_n hx hb dX2_number_80 rfl (lv_at hl 4 rfl) ?_
    refine lv_iconst (v := 2) hx hb dX2_number_81 (by decide) ?_
    refine lv_icmp_ge (tgt := 90) hx hb dX2_number_82 (by decide) (fun c11 => ?_) (fun c11 => ?_)
    · replace h := md_t c11 h
      refine lv_iload hx hb dX2_number_90 (lv_at hl 0 rfl) ?_
      refine lv_iload hx hb dX2_number_92 (lv_at hl 0 rfl) ?_
      refine lv_imul hx hb dX2_number_94 ?_
      exact hQ (x4_1 * x4_1) 95 ls h dX2_number_95
    replace h := md_f c11 h
    refine lv_iload hx hb dX2_number_85 (lv_at hl 0 rfl) ?_
    refine lv_goto (tgt := 95) hx hb dX2_number_87 (by decide) ?_
    exact hQ x4_1 95 ls h dX2_number_95
  replace h := md_f c10 h
  have tc2 := lv_neT (a := 0) c2 (by decide)
  have tc5 := lv_neT (a := 1) c5 (by decide)
  have tc10 := lv_neT (a := 2) c10 (by decide)
  refine lv_tableOut (tgt := 96) hx hb dX2_number_6 (by omega) (by decide) ?_
  refine lv_iload_n hx hb dX2_number_96 rfl (lv_at hl 4 rfl) ?_
  refine lv_if_ne (tgt := 105) hx hb dX2_number_97 (by decide) (fun c12 => ?_) (fun c12 => ?_)
  · replace h := md_f c12 h
    refine lv_iload_n hx hb dX2_number_105 rfl (lv_at hl 4 rfl) ?_
    refine lv_iconst (v := 1) hx hb dX2_number_106 (by decide) ?_
    refine lv_icmp_ne (tgt := 118) hx hb dX2_number_107 (by decide) (fun c13 => ?_) (fun c13 => ?_)
    · replace h := md_f c13 h
      refine lv_iload hx hb dX2_number_118 (lv_at hl 0 rfl) ?_
      refine lv_iload hx hb dX2_number_120 (lv_at hl 0 rfl) ?_
      refine lv_imul hx hb dX2_number_122 ?_
      refine lv_iload hx hb dX2_number_123 (lv_at hl 0 rfl) ?_
      refine lv_imul hx hb dX2_number_125 ?_
      exact hQ ((x4_1 * x4_1) * x4_1) 126 ls h dX2_number_126
    replace h := md_t c13 h
    refine lv_iload hx hb dX2_number_110 (lv_at hl 0 rfl) ?_
    refine lv_iload hx hb dX2_number_112 (lv_at hl 0 rfl) ?_
    refine lv_imul hx hb dX2_number_114 ?_
    refine lv_goto (tgt := 126) hx hb dX2_number_115 (by decide) ?_
    exact hQ (x4_1 * x4_1) 126 ls h dX2_number_126
  replace h := md_t c12 h
  refine lv_iload hx hb dX2_number_100 (lv_at hl 0 rfl) ?_
  refine lv_goto (tgt := 126) hx hb dX2_number_102 (by decide) ?_
  exact hQ x4_1 126 ls h dX2_number_126
set_option maxHeartbeats 4000000 in
theorem ctX2_number (l : Launch) {D : va_G} {cI cT : ClassId} {aL : Nat × Nat} {p1 : Int32} {p2 : Int32} {p3 : Int32} {p4 : Int32} {res : Int32} (hm : mX2_number p1 p2 p3 p4 = some res) : Met l yX2_number wsX2_number rmX2_number (va_Pc [.int p1, .int p2, .int p3, .int p4] (kW D cI cT [] (some aL) (fun _ => False))) (kR (.int res)) 0 0 (fun _ => False) :=
  km (by decide) rfl (Nat.le_of_ble_eq_true rfl) (fun p e s m below meth c ls C hB hl => bX2_number C p1 p2 p3 p4 hB.1 (hB.2.2 aL rfl) hB.2.1 res (fun v pc ls h hd => kr_i C h hd) hm ls hl)
