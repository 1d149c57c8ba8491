theorem wm_X4_listRows_0 : Cond.fieldLink RX4 7 "SixtyTablet$Turning" "LIST" "[I" ∈ wsX4_listRows := by decide +kernel
theorem kdX4_listRows : yX4_listRows.cls ≠ "java/lang/invoke/MethodHandle" ∧ yX4_listRows.cls ≠ "java/lang/invoke/VarHandle" ∧ (parseMethodDescriptor yX4_listRows.desc).map (fun d => d.parameters.length) = some 0 := by decide +kernel
abbrev rmX4_listRows : Room := { frames := 0, cells := 0, slots := 0, locals := 0 }
def mX4_listRows : Option Int32 := (some (29 : Int32))
set_option maxHeartbeats 4000000 in
set_option maxRecDepth 100000 in
theorem bX4_listRows {p : Program} {l : Launch} {e : Env} {s : State} {m : MethodId} {args : Array Value} {below : List Frame} {meth : Method} {c : Code} {Q : State → Prop} (C : kc p s m args meth c cX4_listRows 0 RX4 yX4_listRows.name wsX4_listRows (some .int)) {D : va_G} {cI cT : ClassId} {aL : Nat × Nat} (hK : va_K D vwCl (kTy cI cT) s) (hLz : kLz aL (fun _ => False) s s.heap) (hP : va_P D vwCl [] s.heap) (res : Int32) (hQ : ∀ (v : Int32) (pc : Nat) (ls : Array Slot), some v = some res → decode cX4_listRows pc = .ok (.ireturn, 1) → W p l e rmX4_listRows s m args below meth c s.heap [] 0 0 Q (F0 m pc ls [.int v])) : mX4_listRows = some res → ∀ (ls : Array Slot), lv_has ls 0 [] → W p l e rmX4_listRows s m args below meth c s.heap [] 0 0 Q (F0 m 0 ls []) := by
  intro h ls hl
  have C0 := C
  obtain ⟨hx, hb, hml, hown, hts, hr, hlk, hnm⟩ := C0
  rw [mX4_listRows] at h
  refine va_gets hx hb hLz.1.1 va_S.rf hown (hts _ wm_X4_listRows_0) (fun _ h9 => h9) dX4_listRows_0 ?_
  refine va_tlen (v := 29) hx hb hLz.1.2 va_S.rf (by decide) dX4_listRows_3 ?_
  exact hQ (29 : Int32) 4 ls h dX4_listRows_4
set_option maxHeartbeats 4000000 in
theorem ctX4_listRows (l : Launch) {D : va_G} {cI cT : ClassId} {aL : Nat × Nat} {res : Int32} (hm : mX4_listRows = some res) : Met l yX4_listRows wsX4_listRows rmX4_listRows (va_Pc [] (kW D cI cT [] (some aL) (fun _ => False))) (kR (.int res)) 0 0 (fun _ => False) :=
  km (by decide) rfl (Nat.le_of_ble_eq_true rfl) (fun p e s m below meth c ls C hB hl => bX4_listRows C hB.1 (hB.2.2 aL rfl) hB.2.1 res (fun v pc ls h hd => kr_i C h hd) hm ls hl)
theorem wm_X4_listed_0 : Cond.fieldLink RX4 7 "SixtyTablet$Turning" "LIST" "[I" ∈ wsX4_listed := by decide +kernel
theorem kdX4_listed : yX4_listed.cls ≠ "java/lang/invoke/MethodHandle" ∧ yX4_listed.cls ≠ "java/lang/invoke/VarHandle" ∧ (parseMethodDescriptor yX4_listed.desc).map (fun d => d.parameters.length) = some 1 := by decide +kernel
abbrev rmX4_listed : Room := { frames := 0, cells := 0, slots := 0, locals := 0 }
def mX4_listed (p1 : Int32) : Option Int32 := (if p1 < 0 then (some (1 : Int32)) else (if (29 : Int32) ≤ p1 then (some (1 : Int32)) else (if p1 < 0 ∨ 29 ≤ (Int32.toNatClampNeg p1) then none else (some (kLf (Int32.toNatClampNeg p1))))))
set_option maxHeartbeats 4000000 in
set_option maxRecDepth 100000 in
theorem bX4_listed {p : Program} {l : Launch} {e : Env} {s : State} {m : MethodId} {args : Array Value} {below : List Frame} {meth : Method} {c : Code} {Q : State → Prop} (C : kc p s m args meth c cX4_listed 1 RX4 yX4_listed.name wsX4_listed (some .int)) {D : va_G} {cI cT : ClassId} {aL : Nat × Nat} (p1 : Int32) (hK : va_K D vwCl (kTy cI cT) s) (hLz : kLz aL (fun _ => False) s s.heap) (hP : va_P D vwCl [] s.heap) (res : Int32) (hQ : ∀ (v : Int32) (pc : Nat) (ls : Array Slot), some v = some res → decode cX4_listed pc = .ok (.ireturn, 1) → W p l e rmX4_listed s m args below meth c s.heap [] 0 0 Q (F0 m pc ls [.int v])) : mX4_listed p1 = some res → ∀ (ls : Array Slot), lv_has ls 1 [(0, .int p1)] → W p l e rmX4_listed s m args below meth c s.heap [] 0 0 Q (F0 m 0 ls []) := by
  intro h ls hl
  have C0 := C
  obtain ⟨hx, hb, hml, hown, hts, hr, hlk, hnm⟩ := C0
  rw [mX4_listed] at h
  refine lv_iload_n hx hb dX4_listed_0 rfl (lv_at hl 0 rfl) ?_
  refine lv_if_lt (tgt := 20) hx hb dX4_listed_1 (by decide) (fun c1 => ?_) (fun c1 => ?_)
  · replace h := md_t c1 h
    refine lv_iconst (v := 1) hx hb dX4_listed_20 (by decide) ?_
    exact hQ (1 : Int32) 21 ls h dX4_listed_21
  replace h := md_f c1 h
  refine lv_iload_n hx hb dX4_listed_4 rfl (lv_at hl 0 rfl) ?_
  refine va_gets hx hb hLz.1.1 va_S.rf hown (hts _ wm_X4_listed_0) (fun _ h9 => h9) dX4_listed_5 ?_
  refine va_tlen (v := 29) hx hb hLz.1.2 va_S.rf (by decide) dX4_listed_8 ?_
  refine lv_icmp_ge (tgt := 20) hx hb dX4_listed_9 (by decide) (fun c2 => ?_) (fun c2 => ?_)
  · replace h := md_t c2 h
    refine lv_iconst (v := 1) hx hb dX4_listed_20 (by decide) ?_
    exact hQ (1 : Int32) 21 ls h dX4_listed_21
  replace h := md_f c2 h
  refine va_gets hx hb hLz.1.1 va_S.rf hown (hts _ wm_X4_listed_0) (fun _ h9 => h9) dX4_listed_12 ?_
  refine lv_iload_n hx hb dX4_listed_15 rfl (lv_at hl 0 rfl) ?_
  obtain ⟨hin3, h⟩ := md_g h
  refine va_ti hx hb hLz.1.2 va_S.rf hin3 rfl dX4_listed_16 ?_
  refine lv_goto (tgt := 21) hx hb dX4_listed_17 (by decide) ?_
  exact hQ (kLf (Int32.toNatClampNeg p1)) 21 ls h dX4_listed_21
set_option maxHeartbeats 4000000 in
theorem ctX4_listed (l : Launch) {D : va_G} {cI cT : ClassId} {aL : Nat × Nat} {p1 : Int32} {res : Int32} (hm : mX4_listed p1 = some res) : Met l yX4_listed wsX4_listed rmX4_listed (va_Pc [.int p1] (kW D cI cT [] (some aL) (fun _ => False))) (kR (.int res)) 0 0 (fun _ => False) :=
  km (by decide) rfl (Nat.le_of_ble_eq_true rfl) (fun p e s m below meth c ls C hB hl => bX4_listed C p1 hB.1 (hB.2.2 aL rfl) hB.2.1 res (fun v pc ls h hd => kr_i C h hd) hm ls hl)
theorem wm_X4_listedOver_0 : Cond.fieldLink RX4 13 "SixtyTablet$Turning" "LIST_OVER" "[I" ∈ wsX4_listedOver := by decide +kernel
theorem kdX4_listedOver : yX4_listedOver.cls ≠ "java/lang/invoke/MethodHandle" ∧ yX4_listedOver.cls ≠ "java/lang/invoke/VarHandle" ∧ (parseMethodDescriptor yX4_listedOver.desc).map (fun d => d.parameters.length) = some 1 := by decide +kernel
abbrev rmX4_listedOver : Room := { frames := 0, cells := 0, slots := 0, locals := 0 }
def mX4_listedOver (p1 : Int32) : Option Int32 := (if p1 < 0 then (some (1 : Int32)) else (if (29 : Int32) ≤ p1 then (some (1 : Int32)) else (if p1 < 0 ∨ 29 ≤ (Int32.toNatClampNeg p1) then none else (some (kOf (Int32.toNatClampNeg p1))))))
set_option maxHeartbeats 4000000 in
set_option maxRecDepth 100000 in
theorem bX4_listedOver {p : Program} {l : Launch} {e : Env} {s : State} {m : MethodId} {args : Array Value} {below : List Frame} {meth : Method} {c : Code} {Q : State → Prop} (C : kc p s m args meth c cX4_listedOver 1 RX4 yX4_listedOver.name wsX4_listedOver (some .int)) {D : va_G} {cI cT : ClassId} {aL : Nat × Nat} (p1 : Int32) (hK : va_K D vwCl (kTy cI cT) s) (hLz : kLz aL (fun _ => False) s s.heap) (hP : va_P D vwCl [] s.heap) (res : Int32) (hQ : ∀ (v : Int32) (pc : Nat) (ls : Array Slot), some v = some res → decode cX4_listedOver pc = .ok (.ireturn, 1) → W p l e rmX4_listedOver s m args below meth c s.heap [] 0 0 Q (F0 m pc ls [.int v])) : mX4_listedOver p1 = some res → ∀ (ls : Array Slot), lv_has ls 1 [(0, .int p1)] → W p l e rmX4_listedOver s m args below meth c s.heap [] 0 0 Q (F0 m 0 ls []) := by
  intro h ls hl
  have C0 := C
  obtain ⟨hx, hb, hml, hown, hts, hr, hlk, hnm⟩ := C0
  rw [mX4_listedOver] at h
  refine lv_iload_n hx hb dX4_listedOver_0 rfl (lv_at hl 0 rfl) ?_
  refine lv_if_lt (tgt := 20) hx hb dX4_listedOver_1 (by decide) (fun c1 => ?_) (fun c1 => ?_)
  · replace h := md_t c1 h
    refine lv_iconst (v := 1) hx hb dX4_listedOver_20 (by decide) ?_
    exact hQ (1 : Int32) 21 ls h dX4_listedOver_21
  replace h := md_f c1 h
  refine lv_iload_n hx hb dX4_listedOver_4 rfl (lv_at hl 0 rfl) ?_
  refine va_gets hx hb hLz.2.1 va_S.rf hown (hts _ wm_X4_listedOver_0) (fun _ h9 => h9) dX4_listedOver_5 ?_
  refine va_tlen (v := 29) hx hb hLz.2.2 va_S.rf (by decide) dX4_listedOver_8 ?_
  refine lv_icmp_ge (tgt := 20) hx hb dX4_listedOver_9 (by decide) (fun c2 => ?_) (fun c2 => ?_)
  · replace h := md_t c2 h
    refine lv_iconst (v := 1) hx hb dX4_listedOver_20 (by decide) ?_
    exact hQ (1 : Int32) 21 ls h dX4_listedOver_21
  replace h := md_f c2 h
  refine va_gets hx hb hLz.2.1 va_S.rf hown (hts _ wm_X4_listedOver_0) (fun _ h9 => h9) dX4_listedOver_12 ?_
  refine lv_iload_n hx hb dX4_listedOver_15 rfl (lv_at hl 0 rfl) ?_
  obtain ⟨hin3, h⟩ := md_g h
  refine va_ti hx hb hLz.2.2 va_S.rf hin3 rfl dX4_listedOver_16 ?_
  refine lv_goto (tgt := 21) hx hb dX4_listedOver_17 (by decide) ?_
  exact hQ (kOf (Int32.toNatClampNeg p1)) 21 ls h dX4_listedOver_21
set_option maxHeartbeats 4000000 in
theorem ctX4_listedOver (l : Launch) {D : va_G} {cI cT : ClassId} {aL : Nat × Nat} {p1 : Int32} {res : Int32} (hm : mX4_listedOver p1 = some res) : Met l yX4_listedOver wsX4_listedOver rmX4_listedOver (va_Pc [.int p1] (kW D cI cT [] (some aL) (fun _ => False))) (kR (.int res)) 0 0 (fun _ => False) :=
  km (by decide) rfl (Nat.le_of_ble_eq_true rfl) (fun p e s m below meth c ls C hB hl => bX4_listedOver C p1 hB.1 (hB.2.2 aL rfl) hB.2.1 res (fun v pc ls h hd => kr_i C h hd) hm ls hl)
theorem kdX4_without : yX4_without.cls ≠ "java/lang/invoke/MethodHandle" ∧ yX4_without.cls ≠ "java/lang/invoke/VarHandle" ∧ (parseMethodDescriptor yX4_without.desc).map (fun d => d.parameters.length) = some 2 := by decide +kernel
abbrev rmX4_without : Room := { frames := 0, cells := 0, slots := 0, locals := 0 }
def mlX4_without_5 (x2 : Int32) (kE : Int64 → Option Int64) : Nat → Int64 → Int32 → Option Int64
  | 0, _, _ => none
  | n + 1, x3, x5 => (if (63 : Int32) ≤ x5 then (kE x3) else (if x2 ≤ (1 : Int32) then (kE x3) else (if (Int32.toInt64 x2) = 0 then none else (if (x3 - x3 / (Int32.toInt64 x2) * (Int32.toInt64 x2)) = (0 : Int64) then (if (Int32.toInt64 x2) = 0 then none else (md_let (x3 / (Int32.toInt64 x2)) (fun (x3_6 : Int64) => (md_let (x5 + (1 : Int32)) (fun (x5_7 : Int32) => (mlX4_without_5 x2 kE n x3_6 x5_7)))))) else (kE x3)))))
set_option maxHeartbeats 4000000 in
set_option maxRecDepth 100000 in
theorem lX4_without_5 {p : Program} {l : Launch} {e : Env} {s : State} {m : MethodId} {args : Array Value} {below : List Frame} {meth : Method} {c : Code} {Q : State → Prop} (C : kc p s m args meth c cX4_without 6 RX4 yX4_without.name wsX4_without (some .long)) (x2 : Int32) (res : Int64) (hQ : ∀ (v : Int64) (pc : Nat) (ls : Array Slot), some v = some res → decode cX4_without pc = .ok (.lreturn, 1) → W p l e rmX4_without s m args below meth c s.heap [] 0 0 Q (F0 m pc ls [.long v])) (kE : Int64 → Option Int64) (hE : ∀ (y3 : Int64), kE y3 = some res → ∀ (ls : Array Slot), lv_has ls 6 [(3, .long y3)] → W p l e rmX4_without s m args below meth c s.heap [] 0 0 Q (F0 m 37 ls [])) : ∀ (n : Nat), ∀ (x3 : Int64) (x5 : Int32), mlX4_without_5 x2 kE n x3 x5 = some res → ∀ (ls : Array Slot), lv_has ls 6 [(2, .int x2), (3, .long x3), (5, .int x5)] → W p l e rmX4_without s m args below meth c s.heap [] 0 0 Q (F0 m 5 ls []) := by
  have C0 := C
  obtain ⟨hx, hb, hml, hown, hts, hr, hlk, hnm⟩ := C0
  intro n
  induction n with
  | zero => intro _ _ h; exact md_x h
  | succ n ih =>
    intro x3 x5 h ls hl
    rw [mlX4_without_5] at h
    refine lv_iload hx hb dX4_without_5 (lv_at hl 2 rfl) ?_
    refine lv_bipush (v := 63) hx hb dX4_without_7 (by decide) ?_
    refine lv_icmp_ge (tgt := 37) hx hb dX4_without_9 (by decide) (fun c1 => ?_) (fun c1 => ?_)
    · replace h := md_t c1 h
      exact hE x3 h ls (lv_sub hl [1] rfl)
    replace h := md_f c1 h
    refine lv_iload_n hx hb dX4_without_12 rfl (lv_at hl 0 rfl) ?_
    refine lv_iconst (v := 1) hx hb dX4_without_13 (by decide) ?_
    refine lv_icmp_le (tgt := 37) hx hb dX4_without_14 (by decide) (fun c2 => ?_) (fun c2 => ?_)
    · replace h := md_t c2 h
      exact hE x3 h ls (lv_sub hl [1] rfl)
    replace h := md_f c2 h
    refine lv_lload_n hx hb dX4_without_17 rfl (lv_at hl 1 rfl) ?_
    refine lv_iload_n hx hb dX4_without_18 rfl (lv_at hl 0 rfl) ?_
    refine lv_i2l hx hb dX4_without_19 rfl ?_
    obtain ⟨hz3, h⟩ := md_g h
    refine lv_lrem hx hb dX4_without_20 hz3 ?_
    refine lv_lconst (v := 0) hx hb dX4_without_21 (by decide) ?_
    refine W.lcmp hx hb dX4_without_22 ?_
    refine lv_if_ne (tgt := 37) hx hb dX4_without_23 (by decide) (fun c4 => ?_) (fun c4 => ?_)
    · replace c4 := fun q9 => c4 ((lg_cmp_eq _ _).mpr q9)
      replace h := md_f c4 h
      exact hE x3 h ls (lv_sub hl [1] rfl)
    replace c4 := (lg_cmp_eq _ _).mp c4
    replace h := md_t c4 h
    refine lv_lload_n hx hb dX4_without_26 rfl (lv_at hl 1 rfl) ?_
    refine lv_iload_n hx hb dX4_without_27 rfl (lv_at hl 0 rfl) ?_
    refine lv_i2l hx hb dX4_without_28 rfl ?_
    obtain ⟨hz5, h⟩ := md_g h
    refine lv_ldiv hx hb dX4_without_29 hz5 ?_
    refine lv_topl (fun x3_6 ex3_6 => ?_)
    replace h := md_le ex3_6 h
    refine lv_lstore_n (lv' := [(3, .long x3_6), (2, .int x2), (5, .int x5)]) hx hb dX4_without_30 rfl hl (by decide) rfl (fun ls hl => ?_)
    obtain ⟨x5_7, ex5_7⟩ : ∃ y : Int32, y = (x5 + (1 : Int32)) := ⟨_, rfl⟩
    replace h := md_le ex5_7 h
    refine lv_iinc (v := x5_7) (lv' := [(5, .int x5_7), (3, .long x3_6), (2, .int x2)]) hx hb dX4_without_31 hl (k := 2) rfl (by rw [ex5_7]; rfl) (by decide) rfl (fun ls hl => ?_)
    refine lv_goto (tgt := 5) hx hb dX4_without_34 (by decide) ?_
    exact ih x3_6 x5_7 h ls (lv_sub hl [2, 1, 0] rfl)
def mX4_without (p1 : Int64) (p2 : Int32) : Option Int64 := (mlX4_without_5 p2 (fun (y3_37 : Int64) => (some y3_37)) kN p1 (0 : Int32))
set_option maxHeartbeats 4000000 in
set_option maxRecDepth 100000 in
theorem bX4_without {p : Program} {l : Launch} {e : Env} {s : State} {m : MethodId} {args : Array Value} {below : List Frame} {meth : Method} {c : Code} {Q : State → Prop} (C : kc p s m args meth c cX4_without 6 RX4 yX4_without.name wsX4_without (some .long)) (p1 : Int64) (p2 : Int32) (res : Int64) (hQ : ∀ (v : Int64) (pc : Nat) (ls : Array Slot), some v = some res → decode cX4_without pc = .ok (.lreturn, 1) → W p l e rmX4_without s m args below meth c s.heap [] 0 0 Q (F0 m pc ls [.long v])) : mX4_without p1 p2 = some res → ∀ (ls : Array Slot), lv_has ls 6 [(0, .long p1), (2, .int p2)] → W p l e rmX4_without s m args below meth c s.heap [] 0 0 Q (F0 m 0 ls []) := by
  intro h ls hl
  have C0 := C
  obtain ⟨hx, hb, hml, hown, hts, hr, hlk, hnm⟩ := C0
  rw [mX4_without] at h
  refine lv_lload_n hx hb dX4_without_0 rfl (lv_at hl 0 rfl) ?_
  refine lv_lstore_n (lv' := [(3, .long p1), (0, .long p1), (2, .int p2)]) hx hb dX4_without_1 rfl hl (by decide) rfl (fun ls hl => ?_)
  refine lv_iconst (v := 0) hx hb dX4_without_2 (by decide) ?_
  refine lv_istore (lv' := [(5, .int (0 : Int32)), (3, .long p1), (0, .long p1), (2, .int p2)]) hx hb dX4_without_3 hl (by decide) rfl (fun ls hl => ?_)
  refine lX4_without_5 C p2 res hQ _ (fun y3_37 h ls hl => ?_) kN p1 (0 : Int32) h ls (lv_sub hl [3, 1, 0] rfl)
  refine lv_lload_n hx hb dX4_without_37 rfl (lv_at hl 0 rfl) ?_
  exact hQ y3_37 38 ls h dX4_without_38
set_option maxHeartbeats 4000000 in
theorem ctX4_without (l : Launch) {p1 : Int64} {p2 : Int32} {res : Int64} (hm : mX4_without p1 p2 = some res) : Met l yX4_without wsX4_without rmX4_without (va_Pc [.long p1, .int p2] (fun _ => True)) (kR (.long res)) 0 0 (fun _ => False) :=
  km (by decide) rfl (Nat.le_of_ble_eq_true rfl) (fun p e s m below meth c ls C hB hl => bX4_without C p1 p2 res (fun v pc ls h hd => kr_l C h hd) hm ls hl)
theorem kdX4_isEven : yX4_isEven.cls ≠ "java/lang/invoke/MethodHandle" ∧ yX4_isEven.cls ≠ "java/lang/invoke/VarHandle" ∧ (parseMethodDescriptor yX4_isEven.desc).map (fun d => d.parameters.length) = some 1 := by decide +kernel
abbrev rmX4_isEven : Room := { frames := 1, cells := 0, slots := 0, locals := 25 }
def mX4_isEven (p1 : Int64) : Option Int32 := (Option.bind (mX4_without p1 (2 : Int32)) (fun u1 => (Option.bind (mX4_without u1 (3 : Int32)) (fun u2 => (Option.bind (mX4_without u2 (5 : Int32)) (fun u3 => (if u3 = (1 : Int64) then (some (1 : Int32)) else (some (0 : Int32)))))))))
set_option maxHeartbeats 4000000 in
set_option maxRecDepth 100000 in
theorem bX4_isEven {p : Program} {l : Launch} {e : Env} {s : State} {m : MethodId} {args : Array Value} {below : List Frame} {meth : Method} {c : Code} {Q : State → Prop} (C : kc p s m args meth c cX4_isEven 2 RX4 yX4_isEven.name wsX4_isEven (some .boolean)) (p1 : Int64) (res : Int32) (hQ : ∀ (v : Int32) (pc : Nat) (ls : Array Slot), v = 0 ∨ v = 1 → some v = some res → decode cX4_isEven pc = .ok (.ireturn, 1) → W p l e rmX4_isEven s m args below meth c s.heap [] 0 0 Q (F0 m pc ls [.int v])) : mX4_isEven p1 = some res → ∀ (ls : Array Slot), lv_has ls 2 [(0, .long p1)] → W p l e rmX4_isEven s m args below meth c s.heap [] 0 0 Q (F0 m 0 ls []) := by
  intro h ls hl
  have C0 := C
  obtain ⟨hx, hb, hml, hown, hts, hr, hlk, hnm⟩ := C0
  rw [mX4_isEven] at h
  refine lv_lload_n hx hb dX4_isEven_0 rfl (lv_at hl 0 rfl) ?_
  refine lv_iconst (v := 2) hx hb dX4_isEven_1 (by decide) ?_
  obtain ⟨u1, hu1, h⟩ := md_b h
  refine kS C (ctX4_without l  hu1) gX4_isEven_X4_without rfl kdX4_without ⟨rfl, rfl⟩ ⟨by decide, by decide⟩ kT_blind (fun _ _ _ => trivial) rfl hl [] rfl (Nat.le_of_ble_eq_true rfl) dX4_isEven_2 ⟨by decide, by decide⟩ ?_
  refine lv_iconst (v := 3) hx hb dX4_isEven_5 (by decide) ?_
  obtain ⟨u2, hu2, h⟩ := md_b h
  refine kS C (ctX4_without l  hu2) gX4_isEven_X4_without rfl kdX4_without ⟨rfl, rfl⟩ ⟨by decide, by decide⟩ kT_blind (fun _ _ _ => trivial) rfl hl [] rfl (Nat.le_of_ble_eq_true rfl) dX4_isEven_6 ⟨by decide, by decide⟩ ?_
  refine lv_iconst (v := 5) hx hb dX4_isEven_9 (by decide) ?_
  obtain ⟨u3, hu3, h⟩ := md_b h
  refine kS C (ctX4_without l  hu3) gX4_isEven_X4_without rfl kdX4_without ⟨rfl, rfl⟩ ⟨by decide, by decide⟩ kT_blind (fun _ _ _ => trivial) rfl hl [] rfl (Nat.le_of_ble_eq_true rfl) dX4_isEven_10 ⟨by decide, by decide⟩ ?_
  refine lv_lconst (v := 1) hx hb dX4_isEven_13 (by decide) ?_
  refine W.lcmp hx hb dX4_isEven_14 ?_
  refine lv_if_ne (tgt := 22) hx hb dX4_isEven_15 (by decide) (fun c4 => ?_) (fun c4 => ?_)
  · replace c4 := fun q9 => c4 ((lg_cmp_eq _ _).mpr q9)
    replace h := md_f c4 h
    refine lv_iconst (v := 0) hx hb dX4_isEven_22 (by decide) ?_
    exact hQ (0 : Int32) 23 ls (by decide) h dX4_isEven_23
  replace c4 := (lg_cmp_eq _ _).mp c4
  replace h := md_t c4 h
  refine lv_iconst (v := 1) hx hb dX4_isEven_18 (by decide) ?_
  refine lv_goto (tgt := 23) hx hb dX4_isEven_19 (by decide) ?_
  exact hQ (1 : Int32) 23 ls (by decide) h dX4_isEven_23
set_option maxHeartbeats 4000000 in
theorem ctX4_isEven (l : Launch) {p1 : Int64} {res : Int32} (hm : mX4_isEven p1 = some res) : Met l yX4_isEven wsX4_isEven rmX4_isEven (va_Pc [.long p1] (fun _ => True)) (kR (.int res)) 0 0 (fun _ => False) :=
  km (by decide) rfl (Nat.le_of_ble_eq_true rfl) (fun p e s m below meth c ls C hB hl => bX4_isEven C p1 res (fun v pc ls hz h hd => kr_z C hz h hd) hm ls hl)
theorem kdX4_powerIn : yX4_powerIn.cls ≠ "java/lang/invoke/MethodHandle" ∧ yX4_powerIn.cls ≠ "java/lang/invoke/VarHandle" ∧ (parseMethodDescriptor yX4_powerIn.desc).map (fun d => d.parameters.length) = some 2 := by decide +kernel
abbrev rmX4_powerIn : Room := { frames := 0, cells := 0, slots := 0, locals := 0 }
def mlX4_powerIn_8 (x2 : Int32) (kE : Int32 → Option Int32) : Nat → Int32 → Int64 → Int32 → Option Int32
  | 0, _, _, _ => none
  | n + 1, x3, x4, x6 => (if (63 : Int32) ≤ x6 then (kE x3) else (if x2 ≤ (1 : Int32) then (kE x3) else (if (Int32.toInt64 x2) = 0 then none else (if (x4 - x4 / (Int32.toInt64 x2) * (Int32.toInt64 x2)) = (0 : Int64) then (if (Int32.toInt64 x2) = 0 then none else (md_let (x4 / (Int32.toInt64 x2)) (fun (x4_6 : Int64) => (md_let (x3 + (1 : Int32)) (fun (x3_7 : Int32) => (md_let (x6 + (1 : Int32)) (fun (x6_8 : Int32) => (mlX4_powerIn_8 x2 kE n x3_7 x4_6 x6_8)))))))) else (kE x3)))))
set_option maxHeartbeats 4000000 in
set_option maxRecDepth 100000 in
theorem lX4_powerIn_8 {p : Program} {l : Launch} {e : Env} {s : State} {m : MethodId} {args : Array Value} {below : List Frame} {meth : Method} {c : Code} {Q : State → Prop} (C : kc p s m args meth c cX4_powerIn 7 RX4 yX4_powerIn.name wsX4_powerIn (some .int)) (x2 : Int32) (res : Int32) (hQ : ∀ (v : Int32) (pc : Nat) (ls : Array Slot), some v = some res → decode cX4_powerIn pc = .ok (.ireturn, 1) → W p l e rmX4_powerIn s m args below meth c s.heap [] 0 0 Q (F0 m pc ls [.int v])) (kE : Int32 → Option Int32) (hE : ∀ (y3 : Int32), kE y3 = some res → ∀ (ls : Array Slot), lv_has ls 7 [(3, .int y3)] → W p l e rmX4_powerIn s m args below meth c s.heap [] 0 0 Q (F0 m 46 ls [])) : ∀ (n : Nat), ∀ (x3 : Int32) (x4 : Int64) (x6 : Int32), mlX4_powerIn_8 x2 kE n x3 x4 x6 = some res → ∀ (ls : Array Slot), lv_has ls 7 [(2, .int x2), (3, .int x3), (4, .long x4), (6, .int x6)] → W p l e rmX4_powerIn s m args below meth c s.heap [] 0 0 Q (F0 m 8 ls []) := by
  have C0 := C
  obtain ⟨hx, hb, hml, hown, hts, hr, hlk, hnm⟩ := C0
  intro n
  induction n with
  | zero => intro _ _ _ h; exact md_x h
  | succ n ih =>
    intro x3 x4 x6 h ls hl
    rw [mlX4_powerIn_8] at h
    refine lv_iload hx hb dX4_powerIn_8 (lv_at hl 3 rfl) ?_
    refine lv_bipush (v := 63) hx hb dX4_powerIn_10 (by decide) ?_
    refine lv_icmp_ge (tgt := 46) hx hb dX4_powerIn_12 (by decide) (fun c1 => ?_) (fun c1 => ?_)
    · replace h := md_t c1 h
      exact hE x3 h ls (lv_sub hl [1] rfl)
    replace h := md_f c1 h
    refine lv_iload_n hx hb dX4_powerIn_15 rfl (lv_at hl 0 rfl) ?_
    refine lv_iconst (v := 1) hx hb dX4_powerIn_16 (by decide) ?_
    refine lv_icmp_le (tgt := 46) hx hb dX4_powerIn_17 (by decide) (fun c2 => ?_) (fun c2 => ?_)
    · replace h := md_t c2 h
      exact hE x3 h ls (lv_sub hl [1] rfl)
    replace h := md_f c2 h
    refine lv_lload hx hb dX4_powerIn_20 (lv_at hl 2 rfl) ?_
    refine lv_iload_n hx hb dX4_powerIn_22 rfl (lv_at hl 0 rfl) ?_
    refine lv_i2l hx hb dX4_powerIn_23 rfl ?_
    obtain ⟨hz3, h⟩ := md_g h
    refine lv_lrem hx hb dX4_powerIn_24 hz3 ?_
    refine lv_lconst (v := 0) hx hb dX4_powerIn_25 (by decide) ?_
    refine W.lcmp hx hb dX4_powerIn_26 ?_
    refine lv_if_ne (tgt := 46) hx hb dX4_powerIn_27 (by decide) (fun c4 => ?_) (fun c4 => ?_)
    · replace c4 := fun q9 => c4 ((lg_cmp_eq _ _).mpr q9)
      replace h := md_f c4 h
      exact hE x3 h ls (lv_sub hl [1] rfl)
    replace c4 := (lg_cmp_eq _ _).mp c4
    replace h := md_t c4 h
    refine lv_lload hx hb dX4_powerIn_30 (lv_at hl 2 rfl) ?_
    refine lv_iload_n hx hb dX4_powerIn_32 rfl (lv_at hl 0 rfl) ?_
    refine lv_i2l hx hb dX4_powerIn_33 rfl ?_
    obtain ⟨hz5, h⟩ := md_g h
    refine lv_ldiv hx hb dX4_powerIn_34 hz5 ?_
    refine lv_topl (fun x4_6 ex4_6 => ?_)
    replace h := md_le ex4_6 h
    refine lv_lstore (lv' := [(4, .long x4_6), (2, .int x2), (3, .int x3), (6, .int x6)]) hx hb dX4_powerIn_35 hl (by decide) rfl (fun ls hl => ?_)
    obtain ⟨x3_7, ex3_7⟩ : ∃ y : Int32, y = (x3 + (1 : Int32)) := ⟨_, rfl⟩
    replace h := md_le ex3_7 h
    refine lv_iinc (v := x3_7) (lv' := [(3, .int x3_7), (4, .long x4_6), (2, .int x2), (6, .int x6)]) hx hb dX4_powerIn_37 hl (k := 2) rfl (by rw [ex3_7]; rfl) (by decide) rfl (fun ls hl => ?_)
    obtain ⟨x6_8, ex6_8⟩ : ∃ y : Int32, y = (x6 + (1 : Int32)) := ⟨_, rfl⟩
    replace h := md_le ex6_8 h
    refine lv_iinc (v := x6_8) (lv' := [(6, .int x6_8), (3, .int x3_7), (4, .long x4_6), (2, .int x2)]) hx hb dX4_powerIn_40 hl (k := 3) rfl (by rw [ex6_8]; rfl) (by decide) rfl (fun ls hl => ?_)
    refine lv_goto (tgt := 8) hx hb dX4_powerIn_43 (by decide) ?_
    exact ih x3_7 x4_6 x6_8 h ls (lv_sub hl [3, 1, 2, 0] rfl)
def mX4_powerIn (p1 : Int64) (p2 : Int32) : Option Int32 := (mlX4_powerIn_8 p2 (fun (y3_46 : Int32) => (some y3_46)) kN (0 : Int32) p1 (0 : Int32))
set_option maxHeartbeats 4000000 in
set_option maxRecDepth 100000 in
theorem bX4_powerIn {p : Program} {l : Launch} {e : Env} {s : State} {m : MethodId} {args : Array Value} {below : List Frame} {meth : Method} {c : Code} {Q : State → Prop} (C : kc p s m args meth c cX4_powerIn 7 RX4 yX4_powerIn.name wsX4_powerIn (some .int)) (p1 : Int64) (p2 : Int32) (res : Int32) (hQ : ∀ (v : Int32) (pc : Nat) (ls : Array Slot), some v = some res → decode cX4_powerIn pc = .ok (.ireturn, 1) → W p l e rmX4_powerIn s m args below meth c s.heap [] 0 0 Q (F0 m pc ls [.int v])) : mX4_powerIn p1 p2 = some res → ∀ (ls : Array Slot), lv_has ls 7 [(0, .long p1), (2, .int p2)] → W p l e rmX4_powerIn s m args below meth c s.heap [] 0 0 Q (F0 m 0 ls []) := by
  intro h ls hl
  have C0 := C
  obtain ⟨hx, hb, hml, hown, hts, hr, hlk, hnm⟩ := C0
  rw [mX4_powerIn] at h
  refine lv_iconst (v := 0) hx hb dX4_powerIn_0 (by decide) ?_
  refine lv_istore_n (lv' := [(3, .int (0 : Int32)), (0, .long p1), (2, .int p2)]) hx hb dX4_powerIn_1 rfl hl (by decide) rfl (fun ls hl => ?_)
  refine lv_lload_n hx hb dX4_powerIn_2 rfl (lv_at hl 1 rfl) ?_
  refine lv_lstore (lv' := [(4, .long p1), (3, .int (0 : Int32)), (0, .long p1), (2, .int p2)]) hx hb dX4_powerIn_3 hl (by decide) rfl (fun ls hl => ?_)
  refine lv_iconst (v := 0) hx hb dX4_powerIn_5 (by decide) ?_
  refine lv_istore (lv' := [(6, .int (0 : Int32)), (4, .long p1), (3, .int (0 : Int32)), (0, .long p1), (2, .int p2)]) hx hb dX4_powerIn_6 hl (by decide) rfl (fun ls hl => ?_)
  refine lX4_powerIn_8 C p2 res hQ _ (fun y3_46 h ls hl => ?_) kN (0 : Int32) p1 (0 : Int32) h ls (lv_sub hl [4, 2, 1, 0] rfl)
  refine lv_iload_n hx hb dX4_powerIn_46 rfl (lv_at hl 0 rfl) ?_
  exact hQ y3_46 47 ls h dX4_powerIn_47
set_option maxHeartbeats 4000000 in
theorem ctX4_powerIn (l : Launch) {p1 : Int64} {p2 : Int32} {res : Int32} (hm : mX4_powerIn p1 p2 = some res) : Met l yX4_powerIn wsX4_powerIn rmX4_powerIn (va_Pc [.long p1, .int p2] (fun _ => True)) (kR (.int res)) 0 0 (fun _ => False) :=
  km (by decide) rfl (Nat.le_of_ble_eq_true rfl) (fun p e s m below meth c ls C hB hl => bX4_powerIn C p1 p2 res (fun v pc ls h hd => kr_i C h hd) hm ls hl)
theorem wm_X4_grown_0 : Cond.constantLong RX4 36 (167961600000000) ∈ wsX4_grown := by decide +kernel
theorem wm_X4_grown_1 : Cond.methodLink RX4 38 Lib.MathLoose.min_long.x ∈ wsX4_grown := by decide +kernel
theorem wm_X4_grown_2 : Cond.static Lib.MathLoose.min_long.x ∈ wsX4_grown := by decide +kernel
theorem wm_X4_grown_3 : Cond.initialized "java/lang/Math" ∈ wsX4_grown := by decide +kernel
theorem wm_X4_grown_4 : Cond.code Lib.MathLoose.min_long.x Lib.MathLoose.min_long.code 4 (some .long) ∈ wsX4_grown := by decide +kernel
theorem kdX4_grown : yX4_grown.cls ≠ "java/lang/invoke/MethodHandle" ∧ yX4_grown.cls ≠ "java/lang/invoke/VarHandle" ∧ (parseMethodDescriptor yX4_grown.desc).map (fun d => d.parameters.length) = some 3 := by decide +kernel
abbrev rmX4_grown : Room := { frames := 1, cells := 0, slots := 0, locals := 15 }
def mlX4_grown_6 (x2 : Int32) (x3 : Int32) (kE : Int64 → Option Int64) : Nat → Int64 → Int32 → Option Int64
  | 0, _, _ => none
  | n + 1, x4, x6 => (if x3 ≤ x6 then (kE x4) else (md_let (if (x4 * (Int32.toInt64 x2)) < (167961600000000 : Int64) then (x4 * (Int32.toInt64 x2)) else (167961600000000 : Int64)) (fun (x4_2 : Int64) => (md_let (x6 + (1 : Int32)) (fun (x6_3 : Int32) => (mlX4_grown_6 x2 x3 kE n x4_2 x6_3))))))
set_option maxHeartbeats 4000000 in
set_option maxRecDepth 100000 in
theorem lX4_grown_6 {p : Program} {l : Launch} {e : Env} {s : State} {m : MethodId} {args : Array Value} {below : List Frame} {meth : Method} {c : Code} {Q : State → Prop} (C : kc p s m args meth c cX4_grown 7 RX4 yX4_grown.name wsX4_grown (some .long)) (x2 : Int32) (x3 : Int32) (res : Int64) (hQ : ∀ (v : Int64) (pc : Nat) (ls : Array Slot), some v = some res → decode cX4_grown pc = .ok (.lreturn, 1) → W p l e rmX4_grown s m args below meth c s.heap [] 0 0 Q (F0 m pc ls [.long v])) (kE : Int64 → Option Int64) (hE : ∀ (y4 : Int64), kE y4 = some res → ∀ (ls : Array Slot), lv_has ls 7 [(4, .long y4)] → W p l e rmX4_grown s m args below meth c s.heap [] 0 0 Q (F0 m 31 ls [])) : ∀ (n : Nat), ∀ (x4 : Int64) (x6 : Int32), mlX4_grown_6 x2 x3 kE n x4 x6 = some res → ∀ (ls : Array Slot), lv_has ls 7 [(2, .int x2), (3, .int x3), (4, .long x4), (6, .int x6)] → W p l e rmX4_grown s m args below meth c s.heap [] 0 0 Q (F0 m 6 ls []) := by
  have C0 := C
  obtain ⟨hx, hb, hml, hown, hts, hr, hlk, hnm⟩ := C0
  intro n
  induction n with
  | zero => intro _ _ h; exact md_x h
  | succ n ih =>
    intro x4 x6 h ls hl
    rw [mlX4_grown_6] at h
    refine lv_iload hx hb dX4_grown_6 (lv_at hl 3 rfl) ?_
    refine lv_iload_n hx hb dX4_grown_8 rfl (lv_at hl 1 rfl) ?_
    refine lv_icmp_ge (tgt := 31) hx hb dX4_grown_9 (by decide) (fun c1 => ?_) (fun c1 => ?_)
    · replace h := md_t c1 h
      exact hE x4 h ls (lv_sub hl [2] rfl)
    replace h := md_f c1 h
    refine lv_ldc2 hx hb hown (hts _ wm_X4_grown_0) dX4_grown_12 ?_
    refine lv_lload hx hb dX4_grown_15 (lv_at hl 2 rfl) ?_
    refine lv_iload_n hx hb dX4_grown_17 rfl (lv_at hl 0 rfl) ?_
    refine lv_i2l hx hb dX4_grown_18 rfl ?_
    refine lv_lmul hx hb dX4_grown_19 ?_
    refine va_mmin_long hx hb (hml.trans hl.1.symm) hown (hts _ wm_X4_grown_1) (hts _ wm_X4_grown_2) (hts _ wm_X4_grown_3) (hts _ wm_X4_grown_4) (by decide) (Nat.le_of_ble_eq_true rfl) (by decide) (by decide) dX4_grown_20 ?_
    refine lv_topl (fun x4_2 ex4_2 => ?_)
    replace h := md_le ex4_2 h
    refine lv_lstore (lv' := [(4, .long x4_2), (2, .int x2), (3, .int x3), (6, .int x6)]) hx hb dX4_grown_23 hl (by decide) rfl (fun ls hl => ?_)
    obtain ⟨x6_3, ex6_3⟩ : ∃ y : Int32, y = (x6 + (1 : Int32)) := ⟨_, rfl⟩
    replace h := md_le ex6_3 h
    refine lv_iinc (v := x6_3) (lv' := [(6, .int x6_3), (4, .long x4_2), (2, .int x2), (3, .int x3)]) hx hb dX4_grown_25 hl (k := 3) rfl (by rw [ex6_3]; rfl) (by decide) rfl (fun ls hl => ?_)
    refine lv_goto (tgt := 6) hx hb dX4_grown_28 (by decide) ?_
    exact ih x4_2 x6_3 h ls (lv_sub hl [2, 3, 1, 0] rfl)
def mX4_grown (p1 : Int64) (p2 : Int32) (p3 : Int32) : Option Int64 := (mlX4_grown_6 p2 p3 (fun (y4_31 : Int64) => (some y4_31)) kN p1 (0 : Int32))
set_option maxHeartbeats 4000000 in
set_option maxRecDepth 100000 in
theorem bX4_grown {p : Program} {l : Launch} {e : Env} {s : State} {m : MethodId} {args : Array Value} {below : List Frame} {meth : Method} {c : Code} {Q : State → Prop} (C : kc p s m args meth c cX4_grown 7 RX4 yX4_grown.name wsX4_grown (some .long)) (p1 : Int64) (p2 : Int32) (p3 : Int32) (res : Int64) (hQ : ∀ (v : Int64) (pc : Nat) (ls : Array Slot), some v = some res → decode cX4_grown pc = .ok (.lreturn, 1) → W p l e rmX4_grown s m args below meth c s.heap [] 0 0 Q (F0 m pc ls [.long v])) : mX4_grown p1 p2 p3 = some res → ∀ (ls : Array Slot), lv_has ls 7 [(0, .long p1), (2, .int p2), (3, .int p3)] → W p l e rmX4_grown s m args below meth c s.heap [] 0 0 Q (F0 m 0 ls []) := by
  intro h ls hl
  have C0 := C
  obtain ⟨hx, hb, hml, hown, hts, hr, hlk, hnm⟩ := C0
  rw [mX4_grown] at h
  refine lv_lload_n hx hb dX4_grown_0 rfl (lv_at hl 0 rfl) ?_
  refine lv_lstore (lv' := [(4, .long p1), (0, .long p1), (2, .int p2), (3, .int p3)]) hx hb dX4_grown_1 hl (by decide) rfl (fun ls hl => ?_)
  refine lv_iconst (v := 0) hx hb dX4_grown_3 (by decide) ?_
  refine lv_istore (lv' := [(6, .int (0 : Int32)), (4, .long p1), (0, .long p1), (2, .int p2), (3, .int p3)]) hx hb dX4_grown_4 hl (by decide) rfl (fun ls hl => ?_)
  refine lX4_grown_6 C p2 p3 res hQ _ (fun y4_31 h ls hl => ?_) kN p1 (0 : Int32) h ls (lv_sub hl [3, 4, 1, 0] rfl)
  refine lv_lload hx hb dX4_grown_31 (lv_at hl 0 rfl) ?_
  exact hQ y4_31 33 ls h dX4_grown_33
set_option maxHeartbeats 4000000 in
theorem ctX4_grown (l : Launch) {p1 : Int64} {p2 : Int32} {p3 : Int32} {res : Int64} (hm : mX4_grown p1 p2 p3 = some res) : Met l yX4_grown wsX4_grown rmX4_grown (va_Pc [.long p1, .int p2, .int p3] (fun _ => True)) (kR (.long res)) 0 0 (fun _ => False) :=
  km (by decide) rfl (Nat.le_of_ble_eq_true rfl) (fun p e s m below meth c ls C hB hl => bX4_grown C p1 p2 p3 res (fun v pc ls h hd => kr_l C h hd) hm ls hl)
theorem wm_X4_turnOver_0 : Cond.methodLink RX4 24 Lib.Math.max.name ∈ wsX4_turnOver := by decide +kernel
theorem wm_X4_turnOver_1 : Cond.static Lib.Math.max.name ∈ wsX4_turnOver := by decide +kernel
theorem wm_X4_turnOver_2 : Cond.initialized "java/lang/Math" ∈ wsX4_turnOver := by decide +kernel
theorem wm_X4_turnOver_3 : Cond.code Lib.Math.max.name Lib.Math.max.code 2 (some .int) ∈ wsX4_turnOver := by decide +kernel
theorem kdX4_turnOver : yX4_turnOver.cls ≠ "java/lang/invoke/MethodHandle" ∧ yX4_turnOver.cls ≠ "java/lang/invoke/VarHandle" ∧ (parseMethodDescriptor yX4_turnOver.desc).map (fun d => d.parameters.length) = some 1 := by decide +kernel
abbrev rmX4_turnOver : Room := { frames := 2, cells := 0, slots := 0, locals := 41 }
def mX4_turnOver (p1 : Int64) : Option Int64 := (Option.bind (mX4_powerIn p1 (2 : Int32)) (fun u1 => (Option.bind (mX4_powerIn p1 (3 : Int32)) (fun u2 => (Option.bind (mX4_powerIn p1 (5 : Int32)) (fun u3 => (md_let (if ((u1 + (1 : Int32)) / (2 : Int32)) < (if u2 < u3 then u3 else u2) then (if u2 < u3 then u3 else u2) else ((u1 + (1 : Int32)) / (2 : Int32))) (fun (x5_4 : Int32) => (Option.bind (mX4_grown (1 : Int64) (2 : Int32) (((2 : Int32) * x5_4) - u1)) (fun u5 => (Option.bind (mX4_grown u5 (3 : Int32) (x5_4 - u2)) (fun u6 => (Option.bind (mX4_grown u6 (5 : Int32) (x5_4 - u3)) (fun u7 => (some u7)))))))))))))))
set_option maxHeartbeats 4000000 in
set_option maxRecDepth 100000 in
theorem bX4_turnOver {p : Program} {l : Launch} {e : Env} {s : State} {m : MethodId} {args : Array Value} {below : List Frame} {meth : Method} {c : Code} {Q : State → Prop} (C : kc p s m args meth c cX4_turnOver 8 RX4 yX4_turnOver.name wsX4_turnOver (some .long)) (p1 : Int64) (res : Int64) (hQ : ∀ (v : Int64) (pc : Nat) (ls : Array Slot), some v = some res → decode cX4_turnOver pc = .ok (.lreturn, 1) → W p l e rmX4_turnOver s m args below meth c s.heap [] 0 0 Q (F0 m pc ls [.long v])) : mX4_turnOver p1 = some res → ∀ (ls : Array Slot), lv_has ls 8 [(0, .long p1)] → W p l e rmX4_turnOver s m args below meth c s.heap [] 0 0 Q (F0 m 0 ls []) := by
  intro h ls hl
  have C0 := C
  obtain ⟨hx, hb, hml, hown, hts, hr, hlk, hnm⟩ := C0
  rw [mX4_turnOver] at h
  refine lv_lload_n hx hb dX4_turnOver_0 rfl (lv_at hl 0 rfl) ?_
  refine lv_iconst (v := 2) hx hb dX4_turnOver_1 (by decide) ?_
  obtain ⟨u1, hu1, h⟩ := md_b h
  refine kS C (ctX4_powerIn l  hu1) gX4_turnOver_X4_powerIn rfl kdX4_powerIn ⟨rfl, rfl⟩ ⟨by decide, by decide⟩ kT_blind (fun _ _ _ => trivial) rfl hl [] rfl (Nat.le_of_ble_eq_true rfl) dX4_turnOver_2 ⟨by decide, by decide⟩ ?_
  refine lv_istore_n (lv' := [(2, .int u1), (0, .long p1)]) hx hb dX4_turnOver_5 rfl hl (by decide) rfl (fun ls hl => ?_)
  refine lv_lload_n hx hb dX4_turnOver_6 rfl (lv_at hl 1 rfl) ?_
  refine lv_iconst (v := 3) hx hb dX4_turnOver_7 (by decide) ?_
  obtain ⟨u2, hu2, h⟩ := md_b h
  refine kS C (ctX4_powerIn l  hu2) gX4_turnOver_X4_powerIn rfl kdX4_powerIn ⟨rfl, rfl⟩ ⟨by decide, by decide⟩ kT_blind (fun _ _ _ => trivial) rfl hl [] rfl (Nat.le_of_ble_eq_true rfl) dX4_turnOver_8 ⟨by decide, by decide⟩ ?_
  refine lv_istore_n (lv' := [(3, .int u2), (2, .int u1), (0, .long p1)]) hx hb dX4_turnOver_11 rfl hl (by decide) rfl (fun ls hl => ?_)
  refine lv_lload_n hx hb dX4_turnOver_12 rfl (lv_at hl 2 rfl) ?_
  refine lv_iconst (v := 5) hx hb dX4_turnOver_13 (by decide) ?_
  obtain ⟨u3, hu3, h⟩ := md_b h
  refine kS C (ctX4_powerIn l  hu3) gX4_turnOver_X4_powerIn rfl kdX4_powerIn ⟨rfl, rfl⟩ ⟨by decide, by decide⟩ kT_blind (fun _ _ _ => trivial) rfl hl [] rfl (Nat.le_of_ble_eq_true rfl) dX4_turnOver_14 ⟨by decide, by decide⟩ ?_
  refine lv_istore (lv' := [(4, .int u3), (3, .int u2), (2, .int u1), (0, .long p1)]) hx hb dX4_turnOver_17 hl (by decide) rfl (fun ls hl => ?_)
  refine lv_iload_n hx hb dX4_turnOver_19 rfl (lv_at hl 2 rfl) ?_
  refine lv_iconst (v := 1) hx hb dX4_turnOver_20 (by decide) ?_
  refine lv_iadd hx hb dX4_turnOver_21 ?_
  refine lv_iconst (v := 2) hx hb dX4_turnOver_22 (by decide) ?_
  refine lv_idiv hx hb dX4_turnOver_23 (by decide) ?_
  refine lv_iload_n hx hb dX4_turnOver_24 rfl (lv_at hl 1 rfl) ?_
  refine lv_iload hx hb dX4_turnOver_25 (lv_at hl 0 rfl) ?_
  refine va_mmax hx hb (hml.trans hl.1.symm) hown (hts _ wm_X4_turnOver_0) (hts _ wm_X4_turnOver_1) (hts _ wm_X4_turnOver_2) (hts _ wm_X4_turnOver_3) (by decide) (Nat.le_of_ble_eq_true rfl) (by decide) (by decide) dX4_turnOver_27 ?_
  refine va_mmax hx hb (hml.trans hl.1.symm) hown (hts _ wm_X4_turnOver_0) (hts _ wm_X4_turnOver_1) (hts _ wm_X4_turnOver_2) (hts _ wm_X4_turnOver_3) (by decide) (Nat.le_of_ble_eq_true rfl) (by decide) (by decide) dX4_turnOver_30 ?_
  refine lv_topi (fun x5_4 ex5_4 => ?_)
  replace h := md_le ex5_4 h
  refine lv_istore (lv' := [(5, .int x5_4), (4, .int u3), (3, .int u2), (2, .int u1), (0, .long p1)]) hx hb dX4_turnOver_33 hl (by decide) rfl (fun ls hl => ?_)
  refine lv_lconst (v := 1) hx hb dX4_turnOver_35 (by decide) ?_
  refine lv_iconst (v := 2) hx hb dX4_turnOver_36 (by decide) ?_
  refine lv_iconst (v := 2) hx hb dX4_turnOver_37 (by decide) ?_
  refine lv_iload hx hb dX4_turnOver_38 (lv_at hl 0 rfl) ?_
  refine lv_imul hx hb dX4_turnOver_40 ?_
  refine lv_iload_n hx hb dX4_turnOver_41 rfl (lv_at hl 3 rfl) ?_
  refine lv_isub hx hb dX4_turnOver_42 ?_
  obtain ⟨u5, hu5, h⟩ := md_b h
  refine kS C (ctX4_grown l  hu5) gX4_turnOver_X4_grown rfl kdX4_grown ⟨rfl, rfl⟩ ⟨by decide, by decide⟩ kT_blind (fun _ _ _ => trivial) rfl hl [] rfl (Nat.le_of_ble_eq_true rfl) dX4_turnOver_43 ⟨by decide, by decide⟩ ?_
  refine lv_lstore (lv' := [(6, .long u5), (5, .int x5_4), (4, .int u3), (3, .int u2), (2, .int u1), (0, .long p1)]) hx hb dX4_turnOver_46 hl (by decide) rfl (fun ls hl => ?_)
  refine lv_lload hx hb dX4_turnOver_48 (lv_at hl 0 rfl) ?_
  refine lv_iconst (v := 3) hx hb dX4_turnOver_50 (by decide) ?_
  refine lv_iload hx hb dX4_turnOver_51 (lv_at hl 1 rfl) ?_
  refine lv_iload_n hx hb dX4_turnOver_53 rfl (lv_at hl 3 rfl) ?_
  refine lv_isub hx hb dX4_turnOver_54 ?_
  obtain ⟨u6, hu6, h⟩ := md_b h
  refine kS C (ctX4_grown l  hu6) gX4_turnOver_X4_grown rfl kdX4_grown ⟨rfl, rfl⟩ ⟨by decide, by decide⟩ kT_blind (fun _ _ _ => trivial) rfl hl [] rfl (Nat.le_of_ble_eq_true rfl) dX4_turnOver_55 ⟨by decide, by decide⟩ ?_
  refine lv_lstore (lv' := [(6, .long u6), (5, .int x5_4), (4, .int u3), (3, .int u2), (2, .int u1), (0, .long p1)]) hx hb dX4_turnOver_58 hl (by decide) rfl (fun ls hl => ?_)
  refine lv_lload hx hb dX4_turnOver_60 (lv_at hl 0 rfl) ?_
  refine lv_iconst (v := 5) hx hb dX4_turnOver_62 (by decide) ?_
  refine lv_iload hx hb dX4_turnOver_63 (lv_at hl 1 rfl) ?_
  refine lv_iload hx hb dX4_turnOver_65 (lv_at hl 2 rfl) ?_
  refine lv_isub hx hb dX4_turnOver_67 ?_
  obtain ⟨u7, hu7, h⟩ := md_b h
  refine kS C (ctX4_grown l  hu7) gX4_turnOver_X4_grown rfl kdX4_grown ⟨rfl, rfl⟩ ⟨by decide, by decide⟩ kT_blind (fun _ _ _ => trivial) rfl hl [] rfl (Nat.le_of_ble_eq_true rfl) dX4_turnOver_68 ⟨by decide, by decide⟩ ?_
  exact hQ u7 71 ls h dX4_turnOver_71
set_option maxHeartbeats 4000000 in
theorem ctX4_turnOver (l : Launch) {p1 : Int64} {res : Int64} (hm : mX4_turnOver p1 = some res) : Met l yX4_turnOver wsX4_turnOver rmX4_turnOver (va_Pc [.long p1] (fun _ => True)) (kR (.long res)) 0 0 (fun _ => False) :=
  km (by decide) rfl (Nat.le_of_ble_eq_true rfl) (fun p e s m below meth c ls C hB hl => bX4_turnOver C p1 res (fun v pc ls h hd => kr_l C h hd) hm ls hl)
theorem wm_X4_greatestListed_0 : Cond.fieldLink RX4 7 "SixtyTablet$Turning" "LIST" "[I" ∈ wsX4_greatestListed := by decide +kernel
theorem kdX4_greatestListed : yX4_greatestListed.cls ≠ "java/lang/invoke/MethodHandle" ∧ yX4_greatestListed.cls ≠ "java/lang/invoke/VarHandle" ∧ (parseMethodDescriptor yX4_greatestListed.desc).map (fun d => d.parameters.length) = some 1 := by decide +kernel
abbrev rmX4_greatestListed : Room := { frames := 0, cells := 0, slots := 0, locals := 0 }
def mlX4_greatestListed_7 (x0 : Int64) (kE : Unit → Option Int32) : Nat → Int32 → Option Int32
  | 0, _ => none
  | n + 1, x2 => (if x2 < 0 then (kE ()) else (if x2 < 0 ∨ 29 ≤ (Int32.toNatClampNeg x2) then none else (md_let (kLf (Int32.toNatClampNeg x2)) (fun (x3_4 : Int32) => (md_jn (fun (u_33 : Unit) => (md_let (x2 + (-1 : Int32)) (fun (x2_5 : Int32) => (mlX4_greatestListed_7 x0 kE n x2_5)))) (fun kJ33 => (if x3_4 ≤ (1 : Int32) then (kJ33 ()) else (if (Int32.toInt64 x3_4) = 0 then none else (if (x0 - x0 / (Int32.toInt64 x3_4) * (Int32.toInt64 x3_4)) = (0 : Int64) then (some x3_4) else (kJ33 ()))))))))))
set_option maxHeartbeats 4000000 in
set_option maxRecDepth 100000 in
theorem lX4_greatestListed_7 {p : Program} {l : Launch} {e : Env} {s : State} {m : MethodId} {args : Array Value} {below : List Frame} {meth : Method} {c : Code} {Q : State → Prop} (C : kc p s m args meth c cX4_greatestListed 4 RX4 yX4_greatestListed.name wsX4_greatestListed (some .int)) {D : va_G} {cI cT : ClassId} {aL : Nat × Nat} (hK : va_K D vwCl (kTy cI cT) s) (hLz : kLz aL (fun _ => False) s s.heap) (x0 : Int64) (hP : va_P D vwCl [] s.heap) (res : Int32) (hQ : ∀ (v : Int32) (pc : Nat) (ls : Array Slot), some v = some res → decode cX4_greatestListed pc = .ok (.ireturn, 1) → W p l e rmX4_greatestListed s m args below meth c s.heap [] 0 0 Q (F0 m pc ls [.int v])) (kE : Unit → Option Int32) (hE : ∀ (u_ : Unit), kE u_ = some res → ∀ (ls : Array Slot), lv_has ls 4 [] → W p l e rmX4_greatestListed s m args below meth c s.heap [] 0 0 Q (F0 m 39 ls [])) : ∀ (n : Nat), ∀ (x2 : Int32), mlX4_greatestListed_7 x0 kE n x2 = some res → ∀ (ls : Array Slot), lv_has ls 4 [(0, .long x0), (2, .int x2)] → W p l e rmX4_greatestListed s m args below meth c s.heap [] 0 0 Q (F0 m 7 ls []) := by
  have C0 := C
  obtain ⟨hx, hb, hml, hown, hts, hr, hlk, hnm⟩ := C0
  intro n
  induction n with
  | zero => intro _ h; exact md_x h
  | succ n ih =>
    intro x2 h ls hl
    rw [mlX4_greatestListed_7] at h
    refine lv_iload_n hx hb dX4_greatestListed_7 rfl (lv_at hl 1 rfl) ?_
    refine lv_if_lt (tgt := 39) hx hb dX4_greatestListed_8 (by decide) (fun c2 => ?_) (fun c2 => ?_)
    · replace h := md_t c2 h
      exact hE () h ls (lv_sub hl [] rfl)
    replace h := md_f c2 h
    refine va_gets hx hb hLz.1.1 va_S.rf hown (hts _ wm_X4_greatestListed_0) (fun _ h9 => h9) dX4_greatestListed_11 ?_
    refine lv_iload_n hx hb dX4_greatestListed_14 rfl (lv_at hl 1 rfl) ?_
    obtain ⟨hin3, h⟩ := md_g h
    refine va_ti hx hb hLz.1.2 va_S.rf hin3 rfl dX4_greatestListed_15 ?_
    refine lv_topi (fun x3_4 ex3_4 => ?_)
    replace h := md_le ex3_4 h
    refine lv_istore_n (lv' := [(3, .int x3_4), (0, .long x0), (2, .int x2)]) hx hb dX4_greatestListed_16 rfl hl (by decide) rfl (fun ls hl => ?_)
    refine lv_iload_n hx hb dX4_greatestListed_17 rfl (lv_at hl 0 rfl) ?_
    refine lv_iconst (v := 1) hx hb dX4_greatestListed_18 (by decide) ?_
    obtain ⟨kJ33, ekJ33, h⟩ := md_jo h
    have KJ33 : ∀ (u_33 : Unit), kJ33 u_33 = some res → ∀ (ls : Array Slot), lv_has ls 4 [(0, .long x0), (2, .int x2)] → W p l e rmX4_greatestListed s m args below meth c s.heap [] 0 0 Q (F0 m 33 ls []) := by
      intro u_33 h ls hl
      rw [ekJ33] at h
      obtain ⟨x2_5, ex2_5⟩ : ∃ y : Int32, y = (x2 + (-1 : Int32)) := ⟨_, rfl⟩
      replace h := md_le ex2_5 h
      refine lv_iinc (v := x2_5) (lv' := [(2, .int x2_5), (0, .long x0)]) hx hb dX4_greatestListed_33 hl (k := 1) rfl (by rw [ex2_5]; rfl) (by decide) rfl (fun ls hl => ?_)
      refine lv_goto (tgt := 7) hx hb dX4_greatestListed_36 (by decide) ?_
      exact ih x2_5 h ls (lv_sub hl [1, 0] rfl)
    clear ekJ33
    refine lv_icmp_le (tgt := 33) hx hb dX4_greatestListed_19 (by decide) (fun c6 => ?_) (fun c6 => ?_)
    · replace h := md_t c6 h
      exact KJ33 () h ls (lv_sub hl [1, 2] rfl)
    replace h := md_f c6 h
    refine lv_lload_n hx hb dX4_greatestListed_22 rfl (lv_at hl 1 rfl) ?_
    refine lv_iload_n hx hb dX4_greatestListed_23 rfl (lv_at hl 0 rfl) ?_
    refine lv_i2l hx hb dX4_greatestListed_24 rfl ?_
    obtain ⟨hz7, h⟩ := md_g h
    refine lv_lrem hx hb dX4_greatestListed_25 hz7 ?_
    refine lv_lconst (v := 0) hx hb dX4_greatestListed_26 (by decide) ?_
    refine W.lcmp hx hb dX4_greatestListed_27 ?_
    refine lv_if_ne (tgt := 33) hx hb dX4_greatestListed_28 (by decide) (fun c8 => ?_) (fun c8 => ?_)
    · replace c8 := fun q9 => c8 ((lg_cmp_eq _ _).mpr q9)
      replace h := md_f c8 h
      exact KJ33 () h ls (lv_sub hl [1, 2] rfl)
    replace c8 := (lg_cmp_eq _ _).mp c8
    replace h := md_t c8 h
    refine lv_iload_n hx hb dX4_greatestListed_31 rfl (lv_at hl 0 rfl) ?_
    exact hQ x3_4 32 ls h dX4_greatestListed_32
def mX4_greatestListed (p1 : Int64) : Option Int32 := (md_let ((29 : Int32) - (1 : Int32)) (fun (x2_1 : Int32) => (mlX4_greatestListed_7 p1 (fun (u_39 : Unit) => (some (1 : Int32))) kN x2_1)))
set_option maxHeartbeats 4000000 in
set_option maxRecDepth 100000 in
theorem bX4_greatestListed {p : Program} {l : Launch} {e : Env} {s : State} {m : MethodId} {args : Array Value} {below : List Frame} {meth : Method} {c : Code} {Q : State → Prop} (C : kc p s m args meth c cX4_greatestListed 4 RX4 yX4_greatestListed.name wsX4_greatestListed (some .int)) {D : va_G} {cI cT : ClassId} {aL : Nat × Nat} (p1 : Int64) (hK : va_K D vwCl (kTy cI cT) s) (hLz : kLz aL (fun _ => False) s s.heap) (hP : va_P D vwCl [] s.heap) (res : Int32) (hQ : ∀ (v : Int32) (pc : Nat) (ls : Array Slot), some v = some res → decode cX4_greatestListed pc = .ok (.ireturn, 1) → W p l e rmX4_greatestListed s m args below meth c s.heap [] 0 0 Q (F0 m pc ls [.int v])) : mX4_greatestListed p1 = some res → ∀ (ls : Array Slot), lv_has ls 4 [(0, .long p1)] → W p l e rmX4_greatestListed s m args below meth c s.heap [] 0 0 Q (F0 m 0 ls []) := by
  intro h ls hl
  have C0 := C
  obtain ⟨hx, hb, hml, hown, hts, hr, hlk, hnm⟩ := C0
  rw [mX4_greatestListed] at h
  refine va_gets hx hb hLz.1.1 va_S.rf hown (hts _ wm_X4_greatestListed_0) (fun _ h9 => h9) dX4_greatestListed_0 ?_
  refine va_tlen (v := 29) hx hb hLz.1.2 va_S.rf (by decide) dX4_greatestListed_3 ?_
  refine lv_iconst (v := 1) hx hb dX4_greatestListed_4 (by decide) ?_
  refine lv_isub hx hb dX4_greatestListed_5 ?_
  refine lv_topi (fun x2_1 ex2_1 => ?_)
  replace h := md_le ex2_1 h
  refine lv_istore_n (lv' := [(2, .int x2_1), (0, .long p1)]) hx hb dX4_greatestListed_6 rfl hl (by decide) rfl (fun ls hl => ?_)
  refine lX4_greatestListed_7 C hK hLz p1 hP res hQ _ (fun u_39 h ls hl => ?_) kN x2_1 h ls (lv_sub hl [1, 0] rfl)
  refine lv_iconst (v := 1) hx hb dX4_greatestListed_39 (by decide) ?_
  exact hQ (1 : Int32) 40 ls h dX4_greatestListed_40
set_option maxHeartbeats 4000000 in
theorem ctX4_greatestListed (l : Launch) {D : va_G} {cI cT : ClassId} {aL : Nat × Nat} {p1 : Int64} {res : Int32} (hm : mX4_greatestListed p1 = some res) : Met l yX4_greatestListed wsX4_greatestListed rmX4_greatestListed (va_Pc [.long p1] (kW D cI cT [] (some aL) (fun _ => False))) (kR (.int res)) 0 0 (fun _ => False) :=
  km (by decide) rfl (Nat.le_of_ble_eq_true rfl) (fun p e s m below meth c ls C hB hl => bX4_greatestListed C p1 hB.1 (hB.2.2 aL rfl) hB.2.1 res (fun v pc ls h hd => kr_i C h hd) hm ls hl)
theorem wm_J6_bitCount_0f7a4_0 : Cond.constant RJ6 265 (1431655765) ∈ wsJ6_bitCount_0f7a4 := by decide +kernel
theorem wm_J6_bitCount_0f7a4_1 : Cond.constant RJ6 266 (858993459) ∈ wsJ6_bitCount_0f7a4 := by decide +kernel
theorem wm_J6_bitCount_0f7a4_2 : Cond.constant RJ6 267 (252645135) ∈ wsJ6_bitCount_0f7a4 := by decide +kernel
theorem kdJ6_bitCount_0f7a4 : yJ6_bitCount_0f7a4.cls ≠ "java/lang/invoke/MethodHandle" ∧ yJ6_bitCount_0f7a4.cls ≠ "java/lang/invoke/VarHandle" ∧ (parseMethodDescriptor yJ6_bitCount_0f7a4.desc).map (fun d => d.parameters.length) = some 1 := by decide +kernel
abbrev rmJ6_bitCount_0f7a4 : Room := { frames := 0, cells := 0, slots := 0, locals := 0 }
def mJ6_bitCount_0f7a4 (p1 : Int32) : Option Int32 := (md_let (p1 - ((((Int32.toUInt32 p1) >>> ((Int32.toUInt32 (1 : Int32)) &&& Int32.toUInt32 31)).toInt32) &&& (1431655765 : Int32))) (fun (x0_1 : Int32) => (md_let ((x0_1 &&& (858993459 : Int32)) + ((((Int32.toUInt32 x0_1) >>> ((Int32.toUInt32 (2 : Int32)) &&& Int32.toUInt32 31)).toInt32) &&& (858993459 : Int32))) (fun (x0_2 : Int32) => (md_let ((x0_2 + (((Int32.toUInt32 x0_2) >>> ((Int32.toUInt32 (4 : Int32)) &&& Int32.toUInt32 31)).toInt32)) &&& (252645135 : Int32)) (fun (x0_3 : Int32) => (md_let (x0_3 + (((Int32.toUInt32 x0_3) >>> ((Int32.toUInt32 (8 : Int32)) &&& Int32.toUInt32 31)).toInt32)) (fun (x0_4 : Int32) => (md_let (x0_4 + (((Int32.toUInt32 x0_4) >>> ((Int32.toUInt32 (16 : Int32)) &&& Int32.toUInt32 31)).toInt32)) (fun (x0_5 : Int32) => (some (x0_5 &&& (63 : Int32)))))))))))))
set_option maxHeartbeats 4000000 in
set_option maxRecDepth 100000 in
theorem bJ6_bitCount_0f7a4 {p : Program} {l : Launch} {e : Env} {s : State} {m : MethodId} {args : Array Value} {below : List Frame} {meth : Method} {c : Code} {Q : State → Prop} (C : kc p s m args meth c cJ6_bitCount_0f7a4 1 RJ6 yJ6_bitCount_0f7a4.name wsJ6_bitCount_0f7a4 (some .int)) (p1 : Int32) (res : Int32) (hQ : ∀ (v : Int32) (pc : Nat) (ls : Array Slot), some v = some res → decode cJ6_bitCount_0f7a4 pc = .ok (.ireturn, 1) → W p l e rmJ6_bitCount_0f7a4 s m args below meth c s.heap [] 0 0 Q (F0 m pc ls [.int v])) : mJ6_bitCount_0f7a4 p1 = some res → ∀ (ls : Array Slot), lv_has ls 1 [(0, .int p1)] → W p l e rmJ6_bitCount_0f7a4 s m args below meth c s.heap [] 0 0 Q (F0 m 0 ls []) := by
  intro h ls hl
  have C0 := C
  obtain ⟨hx, hb, hml, hown, hts, hr, hlk, hnm⟩ := C0
  rw [mJ6_bitCount_0f7a4] at h
  refine lv_iload_n hx hb dJ6_bitCount_0f7a4_0 rfl (lv_at hl 0 rfl) ?_
  refine lv_iload_n hx hb dJ6_bitCount_0f7a4_1 rfl (lv_at hl 0 rfl) ?_
  refine lv_iconst (v := 1) hx hb dJ6_bitCount_0f7a4_2 (by decide) ?_
  refine lv_iushr hx hb dJ6_bitCount_0f7a4_3 rfl ?_
  refine lv_ldcw hx hb hown (hts _ wm_J6_bitCount_0f7a4_0) dJ6_bitCount_0f7a4_4 ?_
  refine lv_iand hx hb dJ6_bitCount_0f7a4_7 ?_
  refine lv_isub hx hb dJ6_bitCount_0f7a4_8 ?_
  refine lv_topi (fun x0_1 ex0_1 => ?_)
  replace h := md_le ex0_1 h
  refine lv_istore_n (lv' := [(0, .int x0_1)]) hx hb dJ6_bitCount_0f7a4_9 rfl hl (by decide) rfl (fun ls hl => ?_)
  refine lv_iload_n hx hb dJ6_bitCount_0f7a4_10 rfl (lv_at hl 0 rfl) ?_
  refine lv_ldcw hx hb hown (hts _ wm_J6_bitCount_0f7a4_1) dJ6_bitCount_0f7a4_11 ?_
  refine lv_iand hx hb dJ6_bitCount_0f7a4_14 ?_
  refine lv_iload_n hx hb dJ6_bitCount_0f7a4_15 rfl (lv_at hl 0 rfl) ?_
  refine lv_iconst (v := 2) hx hb dJ6_bitCount_0f7a4_16 (by decide) ?_
  refine lv_iushr hx hb dJ6_bitCount_0f7a4_17 rfl ?_
  refine lv_ldcw hx hb hown (hts _ wm_J6_bitCount_0f7a4_1) dJ6_bitCount_0f7a4_18 ?_
  refine lv_iand hx hb dJ6_bitCount_0f7a4_21 ?_
  refine lv_iadd hx hb dJ6_bitCount_0f7a4_22 ?_
  refine lv_topi (fun x0_2 ex0_2 => ?_)
  replace h := md_le ex0_2 h
  refine lv_istore_n (lv' := [(0, .int x0_2)]) hx hb dJ6_bitCount_0f7a4_23 rfl hl (by decide) rfl (fun ls hl => ?_)
  refine lv_iload_n hx hb dJ6_bitCount_0f7a4_24 rfl (lv_at hl 0 rfl) ?_
  refine lv_iload_n hx hb dJ6_bitCount_0f7a4_25 rfl (lv_at hl 0 rfl) ?_
  refine lv_iconst (v := 4) hx hb dJ6_bitCount_0f7a4_26 (by decide) ?_
  refine lv_iushr hx hb dJ6_bitCount_0f7a4_27 rfl ?_
  refine lv_iadd hx hb dJ6_bitCount_0f7a4_28 ?_
  refine lv_ldcw hx hb hown (hts _ wm_J6_bitCount_0f7a4_2) dJ6_bitCount_0f7a4_29 ?_
  refine lv_iand hx hb dJ6_bitCount_0f7a4_32 ?_
  refine lv_topi (fun x0_3 ex0_3 => ?_)
  replace h := md_le ex0_3 h
  refine lv_istore_n (lv' := [(0, .int x0_3)]) hx hb dJ6_bitCount_0f7a4_33 rfl hl (by decide) rfl (fun ls hl => ?_)
  refine lv_iload_n hx hb dJ6_bitCount_0f7a4_34 rfl (lv_at hl 0 rfl) ?_
  refine lv_iload_n hx hb dJ6_bitCount_0f7a4_35 rfl (lv_at hl 0 rfl) ?_
  refine lv_bipush (v := 8) hx hb dJ6_bitCount_0f7a4_36 (by decide) ?_
  refine lv_iushr hx hb dJ6_bitCount_0f7a4_38 rfl ?_
  refine lv_iadd hx hb dJ6_bitCount_0f7a4_39 ?_
  refine lv_topi (fun x0_4 ex0_4 => ?_)
  replace h := md_le ex0_4 h
  refine lv_istore_n (lv' := [(0, .int x0_4)]) hx hb dJ6_bitCount_0f7a4_40 rfl hl (by decide) rfl (fun ls hl => ?_)
  refine lv_iload_n hx hb dJ6_bitCount_0f7a4_41 rfl (lv_at hl 0 rfl) ?_
  refine lv_iload_n hx hb dJ6_bitCount_0f7a4_42 rfl (lv_at hl 0 rfl) ?_
  refine lv_bipush (v := 16) hx hb dJ6_bitCount_0f7a4_43 (by decide) ?_
  refine lv_iushr hx hb dJ6_bitCount_0f7a4_45 rfl ?_
  refine lv_iadd hx hb dJ6_bitCount_0f7a4_46 ?_
  refine lv_topi (fun x0_5 ex0_5 => ?_)
  replace h := md_le ex0_5 h
  refine lv_istore_n (lv' := [(0, .int x0_5)]) hx hb dJ6_bitCount_0f7a4_47 rfl hl (by decide) rfl (fun ls hl => ?_)
  refine lv_iload_n hx hb dJ6_bitCount_0f7a4_48 rfl (lv_at hl 0 rfl) ?_
  refine lv_bipush (v := 63) hx hb dJ6_bitCount_0f7a4_49 (by decide) ?_
  refine lv_iand hx hb dJ6_bitCount_0f7a4_51 ?_
  exact hQ (x0_5 &&& (63 : Int32)) 52 ls h dJ6_bitCount_0f7a4_52
set_option maxHeartbeats 4000000 in
theorem ctJ6_bitCount_0f7a4 (l : Launch) {p1 : Int32} {res : Int32} (hm : mJ6_bitCount_0f7a4 p1 = some res) : Met l yJ6_bitCount_0f7a4 wsJ6_bitCount_0f7a4 rmJ6_bitCount_0f7a4 (va_Pc [.int p1] (fun _ => True)) (kR (.int res)) 0 0 (fun _ => False) :=
  km (by decide) rfl (Nat.le_of_ble_eq_true rfl) (fun p e s m below meth c ls C hB hl => bJ6_bitCount_0f7a4 C p1 res (fun v pc ls h hd => kr_i C h hd) hm ls hl)
