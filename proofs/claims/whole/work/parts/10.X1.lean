theorem wm_X1_isNumber_0 : Cond.constantLong RX1 9 (167961600000000) ∈ wsX1_isNumber := by decide +kernel
theorem kdX1_isNumber : yX1_isNumber.cls ≠ "java/lang/invoke/MethodHandle" ∧ yX1_isNumber.cls ≠ "java/lang/invoke/VarHandle" ∧ (parseMethodDescriptor yX1_isNumber.desc).map (fun d => d.parameters.length) = some 1 := by decide +kernel
abbrev rmX1_isNumber : Room := { frames := 0, cells := 0, slots := 0, locals := 0 }
def mX1_isNumber (p1 : Int64) : Option Int32 := (if p1 < (1 : Int64) then (some (0 : Int32)) else (if (167961600000000 : Int64) ≤ p1 then (some (0 : Int32)) else (some (1 : Int32))))
set_option maxHeartbeats 4000000 in
set_option maxRecDepth 100000 in
theorem bX1_isNumber {p : Program} {l : Launch} {e : Env} {s : State} {m : MethodId} {args : Array Value} {below : List Frame} {meth : Method} {c : Code} {Q : State → Prop} (C : kc p s m args meth c cX1_isNumber 2 RX1 yX1_isNumber.name wsX1_isNumber (some .boolean)) (p1 : Int64) (res : Int32) (hQ : ∀ (v : Int32) (pc : Nat) (ls : Array Slot), v = 0 ∨ v = 1 → some v = some res → decode cX1_isNumber pc = .ok (.ireturn, 1) → W p l e rmX1_isNumber s m args below meth c s.heap [] 0 0 Q (F0 m pc ls [.int v])) : mX1_isNumber p1 = some res → ∀ (ls : Array Slot), lv_has ls 2 [(0, .long p1)] → W p l e rmX1_isNumber s m args below meth c s.heap [] 0 0 Q (F0 m 0 ls []) := by
  intro h ls hl
  have C0 := C
  obtain ⟨hx, hb, hml, hown, hts, hr, hlk, hnm⟩ := C0
  rw [mX1_isNumber] at h
  refine lv_lload_n hx hb dX1_isNumber_0 rfl (lv_at hl 0 rfl) ?_
  refine lv_lconst (v := 1) hx hb dX1_isNumber_1 (by decide) ?_
  refine W.lcmp hx hb dX1_isNumber_2 ?_
  refine lv_if_lt (tgt := 18) hx hb dX1_isNumber_3 (by decide) (fun c1 => ?_) (fun c1 => ?_)
  · replace c1 := (lg_cmp_lt _ _).mp c1
    replace h := md_t c1 h
    refine lv_iconst (v := 0) hx hb dX1_isNumber_18 (by decide) ?_
    exact hQ (0 : Int32) 19 ls (by decide) h dX1_isNumber_19
  replace c1 := fun q9 => c1 ((lg_cmp_lt _ _).mpr q9)
  replace h := md_f c1 h
  refine lv_lload_n hx hb dX1_isNumber_6 rfl (lv_at hl 0 rfl) ?_
  refine lv_ldc2 hx hb hown (hts _ wm_X1_isNumber_0) dX1_isNumber_7 ?_
  refine W.lcmp hx hb dX1_isNumber_10 ?_
  refine lv_if_ge (tgt := 18) hx hb dX1_isNumber_11 (by decide) (fun c2 => ?_) (fun c2 => ?_)
  · replace c2 := (lg_cmp_ge _ _).mp c2
    replace h := md_t c2 h
    refine lv_iconst (v := 0) hx hb dX1_isNumber_18 (by decide) ?_
    exact hQ (0 : Int32) 19 ls (by decide) h dX1_isNumber_19
  replace c2 := fun q9 => c2 ((lg_cmp_ge _ _).mpr q9)
  replace h := md_f c2 h
  refine lv_iconst (v := 1) hx hb dX1_isNumber_14 (by decide) ?_
  refine lv_goto (tgt := 19) hx hb dX1_isNumber_15 (by decide) ?_
  exact hQ (1 : Int32) 19 ls (by decide) h dX1_isNumber_19
set_option maxHeartbeats 4000000 in
theorem ctX1_isNumber (l : Launch) {p1 : Int64} {res : Int32} (hm : mX1_isNumber p1 = some res) : Met l yX1_isNumber wsX1_isNumber rmX1_isNumber (va_Pc [.long p1] (fun _ => True)) (kR (.int res)) 0 0 (fun _ => False) :=
  km (by decide) rfl (Nat.le_of_ble_eq_true rfl) (fun p e s m below meth c ls C hB hl => bX1_isNumber C p1 res (fun v pc ls hz h hd => kr_z C hz h hd) hm ls hl)
theorem wm_X1_strip_0 : Cond.constantLong RX1 11 (60) ∈ wsX1_strip := by decide +kernel
theorem kdX1_strip : yX1_strip.cls ≠ "java/lang/invoke/MethodHandle" ∧ yX1_strip.cls ≠ "java/lang/invoke/VarHandle" ∧ (parseMethodDescriptor yX1_strip.desc).map (fun d => d.parameters.length) = some 1 := by decide +kernel
abbrev rmX1_strip : Room := { frames := 0, cells := 0, slots := 0, locals := 0 }
def mlX1_strip_5 (kE : Int64 → Option Int64) : Nat → Int64 → Int32 → Option Int64
  | 0, _, _ => none
  | n + 1, x2, x4 => (if (8 : Int32) ≤ x4 then (kE x2) else (if (x2 - x2 / (60 : Int64) * (60 : Int64)) = (0 : Int64) then (md_let (x2 / (60 : Int64)) (fun (x2_3 : Int64) => (md_let (x4 + (1 : Int32)) (fun (x4_4 : Int32) => (mlX1_strip_5 kE n x2_3 x4_4))))) else (kE x2)))
set_option maxHeartbeats 4000000 in
set_option maxRecDepth 100000 in
theorem lX1_strip_5 {p : Program} {l : Launch} {e : Env} {s : State} {m : MethodId} {args : Array Value} {below : List Frame} {meth : Method} {c : Code} {Q : State → Prop} (C : kc p s m args meth c cX1_strip 5 RX1 yX1_strip.name wsX1_strip (some .long)) (res : Int64) (hQ : ∀ (v : Int64) (pc : Nat) (ls : Array Slot), some v = some res → decode cX1_strip pc = .ok (.lreturn, 1) → W p l e rmX1_strip s m args below meth c s.heap [] 0 0 Q (F0 m pc ls [.long v])) (kE : Int64 → Option Int64) (hE : ∀ (y2 : Int64), kE y2 = some res → ∀ (ls : Array Slot), lv_has ls 5 [(2, .long y2)] → W p l e rmX1_strip s m args below meth c s.heap [] 0 0 Q (F0 m 34 ls [])) : ∀ (n : Nat), ∀ (x2 : Int64) (x4 : Int32), mlX1_strip_5 kE n x2 x4 = some res → ∀ (ls : Array Slot), lv_has ls 5 [(2, .long x2), (4, .int x4)] → W p l e rmX1_strip s m args below meth c s.heap [] 0 0 Q (F0 m 5 ls []) := by
  have C0 := C
  obtain ⟨hx, hb, hml, hown, hts, hr, hlk, hnm⟩ := C0
  intro n
  induction n with
  | zero => intro _ _ h; exact md_x h
  | succ n ih =>
    intro x2 x4 h ls hl
    rw [mlX1_strip_5] at h
    refine lv_iload hx hb dX1_strip_5 (lv_at hl 1 rfl) ?_
    refine lv_bipush (v := 8) hx hb dX1_strip_7 (by decide) ?_
    refine lv_icmp_ge (tgt := 34) hx hb dX1_strip_9 (by decide) (fun c1 => ?_) (fun c1 => ?_)
    · replace h := md_t c1 h
      exact hE x2 h ls (lv_sub hl [0] rfl)
    replace h := md_f c1 h
    refine lv_lload_n hx hb dX1_strip_12 rfl (lv_at hl 0 rfl) ?_
    refine lv_ldc2 hx hb hown (hts _ wm_X1_strip_0) dX1_strip_13 ?_
    refine lv_lrem hx hb dX1_strip_16 (by decide) ?_
    refine lv_lconst (v := 0) hx hb dX1_strip_17 (by decide) ?_
    refine W.lcmp hx hb dX1_strip_18 ?_
    refine lv_if_ne (tgt := 34) hx hb dX1_strip_19 (by decide) (fun c2 => ?_) (fun c2 => ?_)
    · replace c2 := fun q9 => c2 ((lg_cmp_eq _ _).mpr q9)
      replace h := md_f c2 h
      exact hE x2 h ls (lv_sub hl [0] rfl)
    replace c2 := (lg_cmp_eq _ _).mp c2
    replace h := md_t c2 h
    refine lv_lload_n hx hb dX1_strip_22 rfl (lv_at hl 0 rfl) ?_
    refine lv_ldc2 hx hb hown (hts _ wm_X1_strip_0) dX1_strip_23 ?_
    refine lv_ldiv hx hb dX1_strip_26 (by decide) ?_
    refine lv_topl (fun x2_3 ex2_3 => ?_)
    replace h := md_le ex2_3 h
    refine lv_lstore_n (lv' := [(2, .long x2_3), (4, .int x4)]) hx hb dX1_strip_27 rfl hl (by decide) rfl (fun ls hl => ?_)
    obtain ⟨x4_4, ex4_4⟩ : ∃ y : Int32, y = (x4 + (1 : Int32)) := ⟨_, rfl⟩
    replace h := md_le ex4_4 h
    refine lv_iinc (v := x4_4) (lv' := [(4, .int x4_4), (2, .long x2_3)]) hx hb dX1_strip_28 hl (k := 1) rfl (by rw [ex4_4]; rfl) (by decide) rfl (fun ls hl => ?_)
    refine lv_goto (tgt := 5) hx hb dX1_strip_31 (by decide) ?_
    exact ih x2_3 x4_4 h ls (lv_sub hl [1, 0] rfl)
def mX1_strip (p1 : Int64) : Option Int64 := (mlX1_strip_5 (fun (y2_34 : Int64) => (some y2_34)) kN p1 (0 : Int32))
set_option maxHeartbeats 4000000 in
set_option maxRecDepth 100000 in
theorem bX1_strip {p : Program} {l : Launch} {e : Env} {s : State} {m : MethodId} {args : Array Value} {below : List Frame} {meth : Method} {c : Code} {Q : State → Prop} (C : kc p s m args meth c cX1_strip 5 RX1 yX1_strip.name wsX1_strip (some .long)) (p1 : Int64) (res : Int64) (hQ : ∀ (v : Int64) (pc : Nat) (ls : Array Slot), some v = some res → decode cX1_strip pc = .ok (.lreturn, 1) → W p l e rmX1_strip s m args below meth c s.heap [] 0 0 Q (F0 m pc ls [.long v])) : mX1_strip p1 = some res → ∀ (ls : Array Slot), lv_has ls 5 [(0, .long p1)] → W p l e rmX1_strip s m args below meth c s.heap [] 0 0 Q (F0 m 0 ls []) := by
  intro h ls hl
  have C0 := C
  obtain ⟨hx, hb, hml, hown, hts, hr, hlk, hnm⟩ := C0
  rw [mX1_strip] at h
  refine lv_lload_n hx hb dX1_strip_0 rfl (lv_at hl 0 rfl) ?_
  refine lv_lstore_n (lv' := [(2, .long p1), (0, .long p1)]) hx hb dX1_strip_1 rfl hl (by decide) rfl (fun ls hl => ?_)
  refine lv_iconst (v := 0) hx hb dX1_strip_2 (by decide) ?_
  refine lv_istore (lv' := [(4, .int (0 : Int32)), (2, .long p1), (0, .long p1)]) hx hb dX1_strip_3 hl (by decide) rfl (fun ls hl => ?_)
  refine lX1_strip_5 C res hQ _ (fun y2_34 h ls hl => ?_) kN p1 (0 : Int32) h ls (lv_sub hl [1, 0] rfl)
  refine lv_lload_n hx hb dX1_strip_34 rfl (lv_at hl 0 rfl) ?_
  exact hQ y2_34 35 ls h dX1_strip_35
set_option maxHeartbeats 4000000 in
theorem ctX1_strip (l : Launch) {p1 : Int64} {res : Int64} (hm : mX1_strip p1 = some res) : Met l yX1_strip wsX1_strip rmX1_strip (va_Pc [.long p1] (fun _ => True)) (kR (.long res)) 0 0 (fun _ => False) :=
  km (by decide) rfl (Nat.le_of_ble_eq_true rfl) (fun p e s m below meth c ls C hB hl => bX1_strip C p1 res (fun v pc ls h hd => kr_l C h hd) hm ls hl)
theorem wm_X1_length_0 : Cond.constantLong RX1 11 (60) ∈ wsX1_length := by decide +kernel
theorem kdX1_length : yX1_length.cls ≠ "java/lang/invoke/MethodHandle" ∧ yX1_length.cls ≠ "java/lang/invoke/VarHandle" ∧ (parseMethodDescriptor yX1_length.desc).map (fun d => d.parameters.length) = some 1 := by decide +kernel
abbrev rmX1_length : Room := { frames := 0, cells := 0, slots := 0, locals := 0 }
def mlX1_length_7 (kE : Int32 → Option Int32) : Nat → Int32 → Int64 → Int32 → Option Int32
  | 0, _, _, _ => none
  | n + 1, x2, x3, x5 => (if (8 : Int32) ≤ x5 then (kE x2) else (if x3 ≤ (0 : Int64) then (kE x2) else (md_let (x3 / (60 : Int64)) (fun (x3_3 : Int64) => (md_let (x2 + (1 : Int32)) (fun (x2_4 : Int32) => (md_let (x5 + (1 : Int32)) (fun (x5_5 : Int32) => (mlX1_length_7 kE n x2_4 x3_3 x5_5)))))))))
set_option maxHeartbeats 4000000 in
set_option maxRecDepth 100000 in
theorem lX1_length_7 {p : Program} {l : Launch} {e : Env} {s : State} {m : MethodId} {args : Array Value} {below : List Frame} {meth : Method} {c : Code} {Q : State → Prop} (C : kc p s m args meth c cX1_length 6 RX1 yX1_length.name wsX1_length (some .int)) (res : Int32) (hQ : ∀ (v : Int32) (pc : Nat) (ls : Array Slot), some v = some res → decode cX1_length pc = .ok (.ireturn, 1) → W p l e rmX1_length s m args below meth c s.heap [] 0 0 Q (F0 m pc ls [.int v])) (kE : Int32 → Option Int32) (hE : ∀ (y2 : Int32), kE y2 = some res → ∀ (ls : Array Slot), lv_has ls 6 [(2, .int y2)] → W p l e rmX1_length s m args below meth c s.heap [] 0 0 Q (F0 m 35 ls [])) : ∀ (n : Nat), ∀ (x2 : Int32) (x3 : Int64) (x5 : Int32), mlX1_length_7 kE n x2 x3 x5 = some res → ∀ (ls : Array Slot), lv_has ls 6 [(2, .int x2), (3, .long x3), (5, .int x5)] → W p l e rmX1_length s m args below meth c s.heap [] 0 0 Q (F0 m 7 ls []) := by
  have C0 := C
  obtain ⟨hx, hb, hml, hown, hts, hr, hlk, hnm⟩ := C0
  intro n
  induction n with
  | zero => intro _ _ _ h; exact md_x h
  | succ n ih =>
    intro x2 x3 x5 h ls hl
    rw [mlX1_length_7] at h
    refine lv_iload hx hb dX1_length_7 (lv_at hl 2 rfl) ?_
    refine lv_bipush (v := 8) hx hb dX1_length_9 (by decide) ?_
    refine lv_icmp_ge (tgt := 35) hx hb dX1_length_11 (by decide) (fun c1 => ?_) (fun c1 => ?_)
    · replace h := md_t c1 h
      exact hE x2 h ls (lv_sub hl [0] rfl)
    replace h := md_f c1 h
    refine lv_lload_n hx hb dX1_length_14 rfl (lv_at hl 1 rfl) ?_
    refine lv_lconst (v := 0) hx hb dX1_length_15 (by decide) ?_
    refine W.lcmp hx hb dX1_length_16 ?_
    refine lv_if_le (tgt := 35) hx hb dX1_length_17 (by decide) (fun c2 => ?_) (fun c2 => ?_)
    · replace c2 := (lg_cmp_le _ _).mp c2
      replace h := md_t c2 h
      exact hE x2 h ls (lv_sub hl [0] rfl)
    replace c2 := fun q9 => c2 ((lg_cmp_le _ _).mpr q9)
    replace h := md_f c2 h
    refine lv_lload_n hx hb dX1_length_20 rfl (lv_at hl 1 rfl) ?_
    refine lv_ldc2 hx hb hown (hts _ wm_X1_length_0) dX1_length_21 ?_
    refine lv_ldiv hx hb dX1_length_24 (by decide) ?_
    refine lv_topl (fun x3_3 ex3_3 => ?_)
    replace h := md_le ex3_3 h
    refine lv_lstore_n (lv' := [(3, .long x3_3), (2, .int x2), (5, .int x5)]) hx hb dX1_length_25 rfl hl (by decide) rfl (fun ls hl => ?_)
    obtain ⟨x2_4, ex2_4⟩ : ∃ y : Int32, y = (x2 + (1 : Int32)) := ⟨_, rfl⟩
    replace h := md_le ex2_4 h
    refine lv_iinc (v := x2_4) (lv' := [(2, .int x2_4), (3, .long x3_3), (5, .int x5)]) hx hb dX1_length_26 hl (k := 1) rfl (by rw [ex2_4]; rfl) (by decide) rfl (fun ls hl => ?_)
    obtain ⟨x5_5, ex5_5⟩ : ∃ y : Int32, y = (x5 + (1 : Int32)) := ⟨_, rfl⟩
    replace h := md_le ex5_5 h
    refine lv_iinc (v := x5_5) (lv' := [(5, .int x5_5), (2, .int x2_4), (3, .long x3_3)]) hx hb dX1_length_29 hl (k := 2) rfl (by rw [ex5_5]; rfl) (by decide) rfl (fun ls hl => ?_)
    refine lv_goto (tgt := 7) hx hb dX1_length_32 (by decide) ?_
    exact ih x2_4 x3_3 x5_5 h ls (lv_sub hl [1, 2, 0] rfl)
def mX1_length (p1 : Int64) : Option Int32 := (mlX1_length_7 (fun (y2_35 : Int32) => (some y2_35)) kN (0 : Int32) p1 (0 : Int32))
set_option maxHeartbeats 4000000 in
set_option maxRecDepth 100000 in
theorem bX1_length {p : Program} {l : Launch} {e : Env} {s : State} {m : MethodId} {args : Array Value} {below : List Frame} {meth : Method} {c : Code} {Q : State → Prop} (C : kc p s m args meth c cX1_length 6 RX1 yX1_length.name wsX1_length (some .int)) (p1 : Int64) (res : Int32) (hQ : ∀ (v : Int32) (pc : Nat) (ls : Array Slot), some v = some res → decode cX1_length pc = .ok (.ireturn, 1) → W p l e rmX1_length s m args below meth c s.heap [] 0 0 Q (F0 m pc ls [.int v])) : mX1_length p1 = some res → ∀ (ls : Array Slot), lv_has ls 6 [(0, .long p1)] → W p l e rmX1_length s m args below meth c s.heap [] 0 0 Q (F0 m 0 ls []) := by
  intro h ls hl
  have C0 := C
  obtain ⟨hx, hb, hml, hown, hts, hr, hlk, hnm⟩ := C0
  rw [mX1_length] at h
  refine lv_iconst (v := 0) hx hb dX1_length_0 (by decide) ?_
  refine lv_istore_n (lv' := [(2, .int (0 : Int32)), (0, .long p1)]) hx hb dX1_length_1 rfl hl (by decide) rfl (fun ls hl => ?_)
  refine lv_lload_n hx hb dX1_length_2 rfl (lv_at hl 1 rfl) ?_
  refine lv_lstore_n (lv' := [(3, .long p1), (2, .int (0 : Int32)), (0, .long p1)]) hx hb dX1_length_3 rfl hl (by decide) rfl (fun ls hl => ?_)
  refine lv_iconst (v := 0) hx hb dX1_length_4 (by decide) ?_
  refine lv_istore (lv' := [(5, .int (0 : Int32)), (3, .long p1), (2, .int (0 : Int32)), (0, .long p1)]) hx hb dX1_length_5 hl (by decide) rfl (fun ls hl => ?_)
  refine lX1_length_7 C res hQ _ (fun y2_35 h ls hl => ?_) kN (0 : Int32) p1 (0 : Int32) h ls (lv_sub hl [2, 1, 0] rfl)
  refine lv_iload_n hx hb dX1_length_35 rfl (lv_at hl 0 rfl) ?_
  exact hQ y2_35 36 ls h dX1_length_36
set_option maxHeartbeats 4000000 in
theorem ctX1_length (l : Launch) {p1 : Int64} {res : Int32} (hm : mX1_length p1 = some res) : Met l yX1_length wsX1_length rmX1_length (va_Pc [.long p1] (fun _ => True)) (kR (.int res)) 0 0 (fun _ => False) :=
  km (by decide) rfl (Nat.le_of_ble_eq_true rfl) (fun p e s m below meth c ls C hB hl => bX1_length C p1 res (fun v pc ls h hd => kr_i C h hd) hm ls hl)
theorem wm_X1_digitAhead_0 : Cond.constantLong RX1 11 (60) ∈ wsX1_digitAhead := by decide +kernel
theorem kdX1_digitAhead : yX1_digitAhead.cls ≠ "java/lang/invoke/MethodHandle" ∧ yX1_digitAhead.cls ≠ "java/lang/invoke/VarHandle" ∧ (parseMethodDescriptor yX1_digitAhead.desc).map (fun d => d.parameters.length) = some 2 := by decide +kernel
abbrev rmX1_digitAhead : Room := { frames := 0, cells := 0, slots := 0, locals := 0 }
def mlX1_digitAhead_5 (x2 : Int32) (kE : Int64 → Option Int32) : Nat → Int64 → Int32 → Option Int32
  | 0, _, _ => none
  | n + 1, x3, x5 => (if x2 ≤ x5 then (kE x3) else (if (8 : Int32) ≤ x5 then (kE x3) else (md_let (x3 / (60 : Int64)) (fun (x3_3 : Int64) => (md_let (x5 + (1 : Int32)) (fun (x5_4 : Int32) => (mlX1_digitAhead_5 x2 kE n x3_3 x5_4)))))))
set_option maxHeartbeats 4000000 in
set_option maxRecDepth 100000 in
theorem lX1_digitAhead_5 {p : Program} {l : Launch} {e : Env} {s : State} {m : MethodId} {args : Array Value} {below : List Frame} {meth : Method} {c : Code} {Q : State → Prop} (C : kc p s m args meth c cX1_digitAhead 6 RX1 yX1_digitAhead.name wsX1_digitAhead (some .int)) (x2 : Int32) (res : Int32) (hQ : ∀ (v : Int32) (pc : Nat) (ls : Array Slot), some v = some res → decode cX1_digitAhead pc = .ok (.ireturn, 1) → W p l e rmX1_digitAhead s m args below meth c s.heap [] 0 0 Q (F0 m pc ls [.int v])) (kE : Int64 → Option Int32) (hE : ∀ (y3 : Int64), kE y3 = some res → ∀ (ls : Array Slot), lv_has ls 6 [(3, .long y3)] → W p l e rmX1_digitAhead s m args below meth c s.heap [] 0 0 Q (F0 m 30 ls [])) : ∀ (n : Nat), ∀ (x3 : Int64) (x5 : Int32), mlX1_digitAhead_5 x2 kE n x3 x5 = some res → ∀ (ls : Array Slot), lv_has ls 6 [(2, .int x2), (3, .long x3), (5, .int x5)] → W p l e rmX1_digitAhead s m args below meth c s.heap [] 0 0 Q (F0 m 5 ls []) := by
  have C0 := C
  obtain ⟨hx, hb, hml, hown, hts, hr, hlk, hnm⟩ := C0
  intro n
  induction n with
  | zero => intro _ _ h; exact md_x h
  | succ n ih =>
    intro x3 x5 h ls hl
    rw [mlX1_digitAhead_5] at h
    refine lv_iload hx hb dX1_digitAhead_5 (lv_at hl 2 rfl) ?_
    refine lv_iload_n hx hb dX1_digitAhead_7 rfl (lv_at hl 0 rfl) ?_
    refine lv_icmp_ge (tgt := 30) hx hb dX1_digitAhead_8 (by decide) (fun c1 => ?_) (fun c1 => ?_)
    · replace h := md_t c1 h
      exact hE x3 h ls (lv_sub hl [1] rfl)
    replace h := md_f c1 h
    refine lv_iload hx hb dX1_digitAhead_11 (lv_at hl 2 rfl) ?_
    refine lv_bipush (v := 8) hx hb dX1_digitAhead_13 (by decide) ?_
    refine lv_icmp_ge (tgt := 30) hx hb dX1_digitAhead_15 (by decide) (fun c2 => ?_) (fun c2 => ?_)
    · replace h := md_t c2 h
      exact hE x3 h ls (lv_sub hl [1] rfl)
    replace h := md_f c2 h
    refine lv_lload_n hx hb dX1_digitAhead_18 rfl (lv_at hl 1 rfl) ?_
    refine lv_ldc2 hx hb hown (hts _ wm_X1_digitAhead_0) dX1_digitAhead_19 ?_
    refine lv_ldiv hx hb dX1_digitAhead_22 (by decide) ?_
    refine lv_topl (fun x3_3 ex3_3 => ?_)
    replace h := md_le ex3_3 h
    refine lv_lstore_n (lv' := [(3, .long x3_3), (2, .int x2), (5, .int x5)]) hx hb dX1_digitAhead_23 rfl hl (by decide) rfl (fun ls hl => ?_)
    obtain ⟨x5_4, ex5_4⟩ : ∃ y : Int32, y = (x5 + (1 : Int32)) := ⟨_, rfl⟩
    replace h := md_le ex5_4 h
    refine lv_iinc (v := x5_4) (lv' := [(5, .int x5_4), (3, .long x3_3), (2, .int x2)]) hx hb dX1_digitAhead_24 hl (k := 2) rfl (by rw [ex5_4]; rfl) (by decide) rfl (fun ls hl => ?_)
    refine lv_goto (tgt := 5) hx hb dX1_digitAhead_27 (by decide) ?_
    exact ih x3_3 x5_4 h ls (lv_sub hl [2, 1, 0] rfl)
def mX1_digitAhead (p1 : Int64) (p2 : Int32) : Option Int32 := (mlX1_digitAhead_5 p2 (fun (y3_30 : Int64) => (some (Int64.toInt32 (y3_30 - y3_30 / (60 : Int64) * (60 : Int64))))) kN p1 (0 : Int32))
set_option maxHeartbeats 4000000 in
set_option maxRecDepth 100000 in
theorem bX1_digitAhead {p : Program} {l : Launch} {e : Env} {s : State} {m : MethodId} {args : Array Value} {below : List Frame} {meth : Method} {c : Code} {Q : State → Prop} (C : kc p s m args meth c cX1_digitAhead 6 RX1 yX1_digitAhead.name wsX1_digitAhead (some .int)) (p1 : Int64) (p2 : Int32) (res : Int32) (hQ : ∀ (v : Int32) (pc : Nat) (ls : Array Slot), some v = some res → decode cX1_digitAhead pc = .ok (.ireturn, 1) → W p l e rmX1_digitAhead s m args below meth c s.heap [] 0 0 Q (F0 m pc ls [.int v])) : mX1_digitAhead p1 p2 = some res → ∀ (ls : Array Slot), lv_has ls 6 [(0, .long p1), (2, .int p2)] → W p l e rmX1_digitAhead s m args below meth c s.heap [] 0 0 Q (F0 m 0 ls []) := by
  intro h ls hl
  have C0 := C
  obtain ⟨hx, hb, hml, hown, hts, hr, hlk, hnm⟩ := C0
  rw [mX1_digitAhead] at h
  refine lv_lload_n hx hb dX1_digitAhead_0 rfl (lv_at hl 0 rfl) ?_
  refine lv_lstore_n (lv' := [(3, .long p1), (0, .long p1), (2, .int p2)]) hx hb dX1_digitAhead_1 rfl hl (by decide) rfl (fun ls hl => ?_)
  refine lv_iconst (v := 0) hx hb dX1_digitAhead_2 (by decide) ?_
  refine lv_istore (lv' := [(5, .int (0 : Int32)), (3, .long p1), (0, .long p1), (2, .int p2)]) hx hb dX1_digitAhead_3 hl (by decide) rfl (fun ls hl => ?_)
  refine lX1_digitAhead_5 C p2 res hQ _ (fun y3_30 h ls hl => ?_) kN p1 (0 : Int32) h ls (lv_sub hl [3, 1, 0] rfl)
  refine lv_lload_n hx hb dX1_digitAhead_30 rfl (lv_at hl 0 rfl) ?_
  refine lv_ldc2 hx hb hown (hts _ wm_X1_digitAhead_0) dX1_digitAhead_31 ?_
  refine lv_lrem hx hb dX1_digitAhead_34 (by decide) ?_
  refine lv_l2i hx hb dX1_digitAhead_35 rfl ?_
  exact hQ (Int64.toInt32 (y3_30 - y3_30 / (60 : Int64) * (60 : Int64))) 36 ls h dX1_digitAhead_36
set_option maxHeartbeats 4000000 in
theorem ctX1_digitAhead (l : Launch) {p1 : Int64} {p2 : Int32} {res : Int32} (hm : mX1_digitAhead p1 p2 = some res) : Met l yX1_digitAhead wsX1_digitAhead rmX1_digitAhead (va_Pc [.long p1, .int p2] (fun _ => True)) (kR (.int res)) 0 0 (fun _ => False) :=
  km (by decide) rfl (Nat.le_of_ble_eq_true rfl) (fun p e s m below meth c ls C hB hl => bX1_digitAhead C p1 p2 res (fun v pc ls h hd => kr_i C h hd) hm ls hl)
theorem wm_X1_sightLength_0 : Cond.constantLong RX1 11 (60) ∈ wsX1_sightLength := by decide +kernel
theorem kdX1_sightLength : yX1_sightLength.cls ≠ "java/lang/invoke/MethodHandle" ∧ yX1_sightLength.cls ≠ "java/lang/invoke/VarHandle" ∧ (parseMethodDescriptor yX1_sightLength.desc).map (fun d => d.parameters.length) = some 1 := by decide +kernel
abbrev rmX1_sightLength : Room := { frames := 0, cells := 0, slots := 0, locals := 0 }
def mlX1_sightLength_7 (kE : Int32 → Option Int32) : Nat → Int32 → Int64 → Int32 → Option Int32
  | 0, _, _, _ => none
  | n + 1, x2, x3, x5 => (if (8 : Int32) ≤ x5 then (kE x2) else (if x3 ≤ (0 : Int64) then (kE x2) else (md_jn (fun (x2_33 : Int32) => (md_let (x3 / (60 : Int64)) (fun (x3_3 : Int64) => (md_let (x5 + (1 : Int32)) (fun (x5_4 : Int32) => (mlX1_sightLength_7 kE n x2_33 x3_3 x5_4)))))) (fun kJ33 => (if (x3 - x3 / (60 : Int64) * (60 : Int64)) = (0 : Int64) then (kJ33 x2) else (md_let (x2 + (1 : Int32)) (fun (x2_6 : Int32) => (kJ33 x2_6))))))))
set_option maxHeartbeats 4000000 in
set_option maxRecDepth 100000 in
theorem lX1_sightLength_7 {p : Program} {l : Launch} {e : Env} {s : State} {m : MethodId} {args : Array Value} {below : List Frame} {meth : Method} {c : Code} {Q : State → Prop} (C : kc p s m args meth c cX1_sightLength 6 RX1 yX1_sightLength.name wsX1_sightLength (some .int)) (res : Int32) (hQ : ∀ (v : Int32) (pc : Nat) (ls : Array Slot), some v = some res → decode cX1_sightLength pc = .ok (.ireturn, 1) → W p l e rmX1_sightLength s m args below meth c s.heap [] 0 0 Q (F0 m pc ls [.int v])) (kE : Int32 → Option Int32) (hE : ∀ (y2 : Int32), kE y2 = some res → ∀ (ls : Array Slot), lv_has ls 6 [(2, .int y2)] → W p l e rmX1_sightLength s m args below meth c s.heap [] 0 0 Q (F0 m 45 ls [])) : ∀ (n : Nat), ∀ (x2 : Int32) (x3 : Int64) (x5 : Int32), mlX1_sightLength_7 kE n x2 x3 x5 = some res → ∀ (ls : Array Slot), lv_has ls 6 [(2, .int x2), (3, .long x3), (5, .int x5)] → W p l e rmX1_sightLength s m args below meth c s.heap [] 0 0 Q (F0 m 7 ls []) := by
  have C0 := C
  obtain ⟨hx, hb, hml, hown, hts, hr, hlk, hnm⟩ := C0
  intro n
  induction n with
  | zero => intro _ _ _ h; exact md_x h
  | succ n ih =>
    intro x2 x3 x5 h ls hl
    rw [mlX1_sightLength_7] at h
    refine lv_iload hx hb dX1_sightLength_7 (lv_at hl 2 rfl) ?_
    refine lv_bipush (v := 8) hx hb dX1_sightLength_9 (by decide) ?_
    refine lv_icmp_ge (tgt := 45) hx hb dX1_sightLength_11 (by decide) (fun c1 => ?_) (fun c1 => ?_)
    · replace h := md_t c1 h
      exact hE x2 h ls (lv_sub hl [0] rfl)
    replace h := md_f c1 h
    refine lv_lload_n hx hb dX1_sightLength_14 rfl (lv_at hl 1 rfl) ?_
    refine lv_lconst (v := 0) hx hb dX1_sightLength_15 (by decide) ?_
    refine W.lcmp hx hb dX1_sightLength_16 ?_
    refine lv_if_le (tgt := 45) hx hb dX1_sightLength_17 (by decide) (fun c2 => ?_) (fun c2 => ?_)
    · replace c2 := (lg_cmp_le _ _).mp c2
      replace h := md_t c2 h
      exact hE x2 h ls (lv_sub hl [0] rfl)
    replace c2 := fun q9 => c2 ((lg_cmp_le _ _).mpr q9)
    replace h := md_f c2 h
    refine lv_lload_n hx hb dX1_sightLength_20 rfl (lv_at hl 1 rfl) ?_
    refine lv_ldc2 hx hb hown (hts _ wm_X1_sightLength_0) dX1_sightLength_21 ?_
    refine lv_lrem hx hb dX1_sightLength_24 (by decide) ?_
    refine lv_lconst (v := 0) hx hb dX1_sightLength_25 (by decide) ?_
    refine W.lcmp hx hb dX1_sightLength_26 ?_
    obtain ⟨kJ33, ekJ33, h⟩ := md_jo h
    have KJ33 : ∀ (x2_33 : Int32), kJ33 x2_33 = some res → ∀ (ls : Array Slot), lv_has ls 6 [(2, .int x2_33), (3, .long x3), (5, .int x5)] → W p l e rmX1_sightLength s m args below meth c s.heap [] 0 0 Q (F0 m 33 ls []) := by
      intro x2_33 h ls hl
      rw [ekJ33] at h
      refine lv_lload_n hx hb dX1_sightLength_33 rfl (lv_at hl 1 rfl) ?_
      refine lv_ldc2 hx hb hown (hts _ wm_X1_sightLength_0) dX1_sightLength_34 ?_
      refine lv_ldiv hx hb dX1_sightLength_37 (by decide) ?_
      refine lv_topl (fun x3_3 ex3_3 => ?_)
      replace h := md_le ex3_3 h
      refine lv_lstore_n (lv' := [(3, .long x3_3), (2, .int x2_33), (5, .int x5)]) hx hb dX1_sightLength_38 rfl hl (by decide) rfl (fun ls hl => ?_)
      obtain ⟨x5_4, ex5_4⟩ : ∃ y : Int32, y = (x5 + (1 : Int32)) := ⟨_, rfl⟩
      replace h := md_le ex5_4 h
      refine lv_iinc (v := x5_4) (lv' := [(5, .int x5_4), (3, .long x3_3), (2, .int x2_33)]) hx hb dX1_sightLength_39 hl (k := 2) rfl (by rw [ex5_4]; rfl) (by decide) rfl (fun ls hl => ?_)
      refine lv_goto (tgt := 7) hx hb dX1_sightLength_42 (by decide) ?_
      exact ih x2_33 x3_3 x5_4 h ls (lv_sub hl [2, 1, 0] rfl)
    clear ekJ33
    refine lv_if_eq (tgt := 33) hx hb dX1_sightLength_27 (by decide) (fun c5 => ?_) (fun c5 => ?_)
    · replace c5 := (lg_cmp_eq _ _).mp c5
      replace h := md_t c5 h
      exact KJ33 x2 h ls (lv_sub hl [0, 1, 2] rfl)
    replace c5 := fun q9 => c5 ((lg_cmp_eq _ _).mpr q9)
    replace h := md_f c5 h
    obtain ⟨x2_6, ex2_6⟩ : ∃ y : Int32, y = (x2 + (1 : Int32)) := ⟨_, rfl⟩
    replace h := md_le ex2_6 h
    refine lv_iinc (v := x2_6) (lv' := [(2, .int x2_6), (3, .long x3), (5, .int x5)]) hx hb dX1_sightLength_30 hl (k := 0) rfl (by rw [ex2_6]; rfl) (by decide) rfl (fun ls hl => ?_)
    exact KJ33 x2_6 h ls (lv_sub hl [0, 1, 2] rfl)
def mX1_sightLength (p1 : Int64) : Option Int32 := (mlX1_sightLength_7 (fun (y2_45 : Int32) => (some y2_45)) kN (0 : Int32) p1 (0 : Int32))
set_option maxHeartbeats 4000000 in
set_option maxRecDepth 100000 in
theorem bX1_sightLength {p : Program} {l : Launch} {e : Env} {s : State} {m : MethodId} {args : Array Value} {below : List Frame} {meth : Method} {c : Code} {Q : State → Prop} (C : kc p s m args meth c cX1_sightLength 6 RX1 yX1_sightLength.name wsX1_sightLength (some .int)) (p1 : Int64) (res : Int32) (hQ : ∀ (v : Int32) (pc : Nat) (ls : Array Slot), some v = some res → decode cX1_sightLength pc = .ok (.ireturn, 1) → W p l e rmX1_sightLength s m args below meth c s.heap [] 0 0 Q (F0 m pc ls [.int v])) : mX1_sightLength p1 = some res → ∀ (ls : Array Slot), lv_has ls 6 [(0, .long p1)] → W p l e rmX1_sightLength s m args below meth c s.heap [] 0 0 Q (F0 m 0 ls []) := by
  intro h ls hl
  have C0 := C
  obtain ⟨hx, hb, hml, hown, hts, hr, hlk, hnm⟩ := C0
  rw [mX1_sightLength] at h
  refine lv_iconst (v := 0) hx hb dX1_sightLength_0 (by decide) ?_
  refine lv_istore_n (lv' := [(2, .int (0 : Int32)), (0, .long p1)]) hx hb dX1_sightLength_1 rfl hl (by decide) rfl (fun ls hl => ?_)
  refine lv_lload_n hx hb dX1_sightLength_2 rfl (lv_at hl 1 rfl) ?_
  refine lv_lstore_n (lv' := [(3, .long p1), (2, .int (0 : Int32)), (0, .long p1)]) hx hb dX1_sightLength_3 rfl hl (by decide) rfl (fun ls hl => ?_)
  refine lv_iconst (v := 0) hx hb dX1_sightLength_4 (by decide) ?_
  refine lv_istore (lv' := [(5, .int (0 : Int32)), (3, .long p1), (2, .int (0 : Int32)), (0, .long p1)]) hx hb dX1_sightLength_5 hl (by decide) rfl (fun ls hl => ?_)
  refine lX1_sightLength_7 C res hQ _ (fun y2_45 h ls hl => ?_) kN (0 : Int32) p1 (0 : Int32) h ls (lv_sub hl [2, 1, 0] rfl)
  refine lv_iload_n hx hb dX1_sightLength_45 rfl (lv_at hl 0 rfl) ?_
  exact hQ y2_45 46 ls h dX1_sightLength_46
set_option maxHeartbeats 4000000 in
theorem ctX1_sightLength (l : Launch) {p1 : Int64} {res : Int32} (hm : mX1_sightLength p1 = some res) : Met l yX1_sightLength wsX1_sightLength rmX1_sightLength (va_Pc [.long p1] (fun _ => True)) (kR (.int res)) 0 0 (fun _ => False) :=
  km (by decide) rfl (Nat.le_of_ble_eq_true rfl) (fun p e s m below meth c ls C hB hl => bX1_sightLength C p1 res (fun v pc ls h hd => kr_i C h hd) hm ls hl)
theorem wm_X1_spread_0 : Cond.constantLong RX1 11 (60) ∈ wsX1_spread := by decide +kernel
theorem kdX1_spread : yX1_spread.cls ≠ "java/lang/invoke/MethodHandle" ∧ yX1_spread.cls ≠ "java/lang/invoke/VarHandle" ∧ (parseMethodDescriptor yX1_spread.desc).map (fun d => d.parameters.length) = some 2 := by decide +kernel
abbrev rmX1_spread : Room := { frames := 1, cells := 0, slots := 0, locals := 24 }
def mlX1_spread_14 (x2 : Int32) (kE : Int64 → Option Int64) : Nat → Int64 → Int64 → Int64 → Int32 → Option Int64
  | 0, _, _, _, _ => none
  | n + 1, x3, x5, x7, x9 => (if (8 : Int32) ≤ x9 then (kE x7) else (md_jn (fun (x3_53 : Int64) (x7_53 : Int64) => (md_let (x5 * (60 : Int64)) (fun (x5_3 : Int64) => (md_let (x9 + (1 : Int32)) (fun (x9_4 : Int32) => (mlX1_spread_14 x2 kE n x3_53 x5_3 x7_53 x9_4)))))) (fun kJ53 => (if ((x2 >>> (x9 &&& 31)) &&& (1 : Int32)) = (1 : Int32) then (md_let (x7 + ((x3 - x3 / (60 : Int64) * (60 : Int64)) * x5)) (fun (x7_6 : Int64) => (Option.bind (mX1_strip (x3 / (60 : Int64))) (fun u7 => (kJ53 u7 x7_6))))) else (kJ53 x3 x7)))))
set_option maxHeartbeats 4000000 in
set_option maxRecDepth 100000 in
theorem lX1_spread_14 {p : Program} {l : Launch} {e : Env} {s : State} {m : MethodId} {args : Array Value} {below : List Frame} {meth : Method} {c : Code} {Q : State → Prop} (C : kc p s m args meth c cX1_spread 10 RX1 yX1_spread.name wsX1_spread (some .long)) (x2 : Int32) (res : Int64) (hQ : ∀ (v : Int64) (pc : Nat) (ls : Array Slot), some v = some res → decode cX1_spread pc = .ok (.lreturn, 1) → W p l e rmX1_spread s m args below meth c s.heap [] 0 0 Q (F0 m pc ls [.long v])) (kE : Int64 → Option Int64) (hE : ∀ (y7 : Int64), kE y7 = some res → ∀ (ls : Array Slot), lv_has ls 10 [(7, .long y7)] → W p l e rmX1_spread s m args below meth c s.heap [] 0 0 Q (F0 m 67 ls [])) : ∀ (n : Nat), ∀ (x3 : Int64) (x5 : Int64) (x7 : Int64) (x9 : Int32), mlX1_spread_14 x2 kE n x3 x5 x7 x9 = some res → ∀ (ls : Array Slot), lv_has ls 10 [(2, .int x2), (3, .long x3), (5, .long x5), (7, .long x7), (9, .int x9)] → W p l e rmX1_spread s m args below meth c s.heap [] 0 0 Q (F0 m 14 ls []) := by
  have C0 := C
  obtain ⟨hx, hb, hml, hown, hts, hr, hlk, hnm⟩ := C0
  intro n
  induction n with
  | zero => intro _ _ _ _ h; exact md_x h
  | succ n ih =>
    intro x3 x5 x7 x9 h ls hl
    rw [mlX1_spread_14] at h
    refine lv_iload hx hb dX1_spread_14 (lv_at hl 4 rfl) ?_
    refine lv_bipush (v := 8) hx hb dX1_spread_16 (by decide) ?_
    refine lv_icmp_ge (tgt := 67) hx hb dX1_spread_18 (by decide) (fun c2 => ?_) (fun c2 => ?_)
    · replace h := md_t c2 h
      exact hE x7 h ls (lv_sub hl [3] rfl)
    replace h := md_f c2 h
    refine lv_iload_n hx hb dX1_spread_21 rfl (lv_at hl 0 rfl) ?_
    refine lv_iload hx hb dX1_spread_22 (lv_at hl 4 rfl) ?_
    refine lv_ishr hx hb dX1_spread_24 ?_
    refine lv_iconst (v := 1) hx hb dX1_spread_25 (by decide) ?_
    refine lv_iand hx hb dX1_spread_26 ?_
    refine lv_iconst (v := 1) hx hb dX1_spread_27 (by decide) ?_
    obtain ⟨kJ53, ekJ53, h⟩ := md_jo h
    have KJ53 : ∀ (x3_53 : Int64) (x7_53 : Int64), kJ53 x3_53 x7_53 = some res → ∀ (ls : Array Slot), lv_has ls 10 [(2, .int x2), (3, .long x3_53), (5, .long x5), (7, .long x7_53), (9, .int x9)] → W p l e rmX1_spread s m args below meth c s.heap [] 0 0 Q (F0 m 53 ls []) := by
      intro x3_53 x7_53 h ls hl
      rw [ekJ53] at h
      refine lv_lload hx hb dX1_spread_53 (lv_at hl 2 rfl) ?_
      refine lv_ldc2 hx hb hown (hts _ wm_X1_spread_0) dX1_spread_55 ?_
      refine lv_lmul hx hb dX1_spread_58 ?_
      refine lv_topl (fun x5_3 ex5_3 => ?_)
      replace h := md_le ex5_3 h
      refine lv_lstore (lv' := [(5, .long x5_3), (2, .int x2), (3, .long x3_53), (7, .long x7_53), (9, .int x9)]) hx hb dX1_spread_59 hl (by decide) rfl (fun ls hl => ?_)
      obtain ⟨x9_4, ex9_4⟩ : ∃ y : Int32, y = (x9 + (1 : Int32)) := ⟨_, rfl⟩
      replace h := md_le ex9_4 h
      refine lv_iinc (v := x9_4) (lv' := [(9, .int x9_4), (5, .long x5_3), (2, .int x2), (3, .long x3_53), (7, .long x7_53)]) hx hb dX1_spread_61 hl (k := 4) rfl (by rw [ex9_4]; rfl) (by decide) rfl (fun ls hl => ?_)
      refine lv_goto (tgt := 14) hx hb dX1_spread_64 (by decide) ?_
      exact ih x3_53 x5_3 x7_53 x9_4 h ls (lv_sub hl [2, 3, 1, 4, 0] rfl)
    clear ekJ53
    refine lv_icmp_ne (tgt := 53) hx hb dX1_spread_28 (by decide) (fun c5 => ?_) (fun c5 => ?_)
    · replace h := md_f c5 h
      exact KJ53 x3 x7 h ls (lv_sub hl [0, 1, 2, 3, 4] rfl)
    replace h := md_t c5 h
    refine lv_lload hx hb dX1_spread_31 (lv_at hl 3 rfl) ?_
    refine lv_lload_n hx hb dX1_spread_33 rfl (lv_at hl 1 rfl) ?_
    refine lv_ldc2 hx hb hown (hts _ wm_X1_spread_0) dX1_spread_34 ?_
    refine lv_lrem hx hb dX1_spread_37 (by decide) ?_
    refine lv_lload hx hb dX1_spread_38 (lv_at hl 2 rfl) ?_
    refine lv_lmul hx hb dX1_spread_40 ?_
    refine lv_ladd hx hb dX1_spread_41 ?_
    refine lv_topl (fun x7_6 ex7_6 => ?_)
    replace h := md_le ex7_6 h
    refine lv_lstore (lv' := [(7, .long x7_6), (2, .int x2), (3, .long x3), (5, .long x5), (9, .int x9)]) hx hb dX1_spread_42 hl (by decide) rfl (fun ls hl => ?_)
    refine lv_lload_n hx hb dX1_spread_44 rfl (lv_at hl 2 rfl) ?_
    refine lv_ldc2 hx hb hown (hts _ wm_X1_spread_0) dX1_spread_45 ?_
    refine lv_ldiv hx hb dX1_spread_48 (by decide) ?_
    obtain ⟨u7, hu7, h⟩ := md_b h
    refine kS C (ctX1_strip l  hu7) gX1_spread_X1_strip rfl kdX1_strip ⟨rfl, rfl⟩ ⟨by decide, by decide⟩ kT_blind (fun _ _ _ => trivial) rfl hl [] rfl (Nat.le_of_ble_eq_true rfl) dX1_spread_49 ⟨by decide, by decide⟩ ?_
    refine lv_lstore_n (lv' := [(3, .long u7), (7, .long x7_6), (2, .int x2), (5, .long x5), (9, .int x9)]) hx hb dX1_spread_52 rfl hl (by decide) rfl (fun ls hl => ?_)
    exact KJ53 u7 x7_6 h ls (lv_sub hl [2, 0, 3, 1, 4] rfl)
def mX1_spread (p1 : Int64) (p2 : Int32) : Option Int64 := (Option.bind (mX1_strip p1) (fun u1 => (mlX1_spread_14 p2 (fun (y7_67 : Int64) => (some y7_67)) kN u1 (1 : Int64) (0 : Int64) (0 : Int32))))
set_option maxHeartbeats 4000000 in
set_option maxRecDepth 100000 in
theorem bX1_spread {p : Program} {l : Launch} {e : Env} {s : State} {m : MethodId} {args : Array Value} {below : List Frame} {meth : Method} {c : Code} {Q : State → Prop} (C : kc p s m args meth c cX1_spread 10 RX1 yX1_spread.name wsX1_spread (some .long)) (p1 : Int64) (p2 : Int32) (res : Int64) (hQ : ∀ (v : Int64) (pc : Nat) (ls : Array Slot), some v = some res → decode cX1_spread pc = .ok (.lreturn, 1) → W p l e rmX1_spread s m args below meth c s.heap [] 0 0 Q (F0 m pc ls [.long v])) : mX1_spread p1 p2 = some res → ∀ (ls : Array Slot), lv_has ls 10 [(0, .long p1), (2, .int p2)] → W p l e rmX1_spread s m args below meth c s.heap [] 0 0 Q (F0 m 0 ls []) := by
  intro h ls hl
  have C0 := C
  obtain ⟨hx, hb, hml, hown, hts, hr, hlk, hnm⟩ := C0
  rw [mX1_spread] at h
  refine lv_lload_n hx hb dX1_spread_0 rfl (lv_at hl 0 rfl) ?_
  obtain ⟨u1, hu1, h⟩ := md_b h
  refine kS C (ctX1_strip l  hu1) gX1_spread_X1_strip rfl kdX1_strip ⟨rfl, rfl⟩ ⟨by decide, by decide⟩ kT_blind (fun _ _ _ => trivial) rfl hl [] rfl (Nat.le_of_ble_eq_true rfl) dX1_spread_1 ⟨by decide, by decide⟩ ?_
  refine lv_lstore_n (lv' := [(3, .long u1), (0, .long p1), (2, .int p2)]) hx hb dX1_spread_4 rfl hl (by decide) rfl (fun ls hl => ?_)
  refine lv_lconst (v := 1) hx hb dX1_spread_5 (by decide) ?_
  refine lv_lstore (lv' := [(5, .long (1 : Int64)), (3, .long u1), (0, .long p1), (2, .int p2)]) hx hb dX1_spread_6 hl (by decide) rfl (fun ls hl => ?_)
  refine lv_lconst (v := 0) hx hb dX1_spread_8 (by decide) ?_
  refine lv_lstore (lv' := [(7, .long (0 : Int64)), (5, .long (1 : Int64)), (3, .long u1), (0, .long p1), (2, .int p2)]) hx hb dX1_spread_9 hl (by decide) rfl (fun ls hl => ?_)
  refine lv_iconst (v := 0) hx hb dX1_spread_11 (by decide) ?_
  refine lv_istore (lv' := [(9, .int (0 : Int32)), (7, .long (0 : Int64)), (5, .long (1 : Int64)), (3, .long u1), (0, .long p1), (2, .int p2)]) hx hb dX1_spread_12 hl (by decide) rfl (fun ls hl => ?_)
  refine lX1_spread_14 C p2 res hQ _ (fun y7_67 h ls hl => ?_) kN u1 (1 : Int64) (0 : Int64) (0 : Int32) h ls (lv_sub hl [5, 3, 2, 1, 0] rfl)
  refine lv_lload hx hb dX1_spread_67 (lv_at hl 0 rfl) ?_
  exact hQ y7_67 69 ls h dX1_spread_69
set_option maxHeartbeats 4000000 in
theorem ctX1_spread (l : Launch) {p1 : Int64} {p2 : Int32} {res : Int64} (hm : mX1_spread p1 p2 = some res) : Met l yX1_spread wsX1_spread rmX1_spread (va_Pc [.long p1, .int p2] (fun _ => True)) (kR (.long res)) 0 0 (fun _ => False) :=
  km (by decide) rfl (Nat.le_of_ble_eq_true rfl) (fun p e s m below meth c ls C hB hl => bX1_spread C p1 p2 res (fun v pc ls h hd => kr_l C h hd) hm ls hl)
theorem wm_X1_raise_0 : Cond.constantLong RX1 17 (2799360000000) ∈ wsX1_raise := by decide +kernel
theorem wm_X1_raise_1 : Cond.constantLong RX1 11 (60) ∈ wsX1_raise := by decide +kernel
theorem wm_X1_raise_2 : Cond.constantLong RX1 9 (167961600000000) ∈ wsX1_raise := by decide +kernel
theorem kdX1_raise : yX1_raise.cls ≠ "java/lang/invoke/MethodHandle" ∧ yX1_raise.cls ≠ "java/lang/invoke/VarHandle" ∧ (parseMethodDescriptor yX1_raise.desc).map (fun d => d.parameters.length) = some 2 := by decide +kernel
abbrev rmX1_raise : Room := { frames := 0, cells := 0, slots := 0, locals := 0 }
def mlX1_raise_5 (x2 : Int32) (kE : Int64 → Option Int64) : Nat → Int64 → Int32 → Option Int64
  | 0, _, _ => none
  | n + 1, x3, x5 => (if x2 ≤ x5 then (kE x3) else (md_jn (fun (z0_30 : Int64) => (md_let (x5 + (1 : Int32)) (fun (x5_2 : Int32) => (mlX1_raise_5 x2 kE n z0_30 x5_2)))) (fun kJ30 => (if x3 < (2799360000000 : Int64) then (kJ30 (x3 * (60 : Int64))) else (kJ30 (167961600000000 : Int64))))))
set_option maxHeartbeats 4000000 in
set_option maxRecDepth 100000 in
theorem lX1_raise_5 {p : Program} {l : Launch} {e : Env} {s : State} {m : MethodId} {args : Array Value} {below : List Frame} {meth : Method} {c : Code} {Q : State → Prop} (C : kc p s m args meth c cX1_raise 6 RX1 yX1_raise.name wsX1_raise (some .long)) (x2 : Int32) (res : Int64) (hQ : ∀ (v : Int64) (pc : Nat) (ls : Array Slot), some v = some res → decode cX1_raise pc = .ok (.lreturn, 1) → W p l e rmX1_raise s m args below meth c s.heap [] 0 0 Q (F0 m pc ls [.long v])) (kE : Int64 → Option Int64) (hE : ∀ (y3 : Int64), kE y3 = some res → ∀ (ls : Array Slot), lv_has ls 6 [(3, .long y3)] → W p l e rmX1_raise s m args below meth c s.heap [] 0 0 Q (F0 m 37 ls [])) : ∀ (n : Nat), ∀ (x3 : Int64) (x5 : Int32), mlX1_raise_5 x2 kE n x3 x5 = some res → ∀ (ls : Array Slot), lv_has ls 6 [(2, .int x2), (3, .long x3), (5, .int x5)] → W p l e rmX1_raise s m args below meth c s.heap [] 0 0 Q (F0 m 5 ls []) := by
  have C0 := C
  obtain ⟨hx, hb, hml, hown, hts, hr, hlk, hnm⟩ := C0
  intro n
  induction n with
  | zero => intro _ _ h; exact md_x h
  | succ n ih =>
    intro x3 x5 h ls hl
    rw [mlX1_raise_5] at h
    refine lv_iload hx hb dX1_raise_5 (lv_at hl 2 rfl) ?_
    refine lv_iload_n hx hb dX1_raise_7 rfl (lv_at hl 0 rfl) ?_
    refine lv_icmp_ge (tgt := 37) hx hb dX1_raise_8 (by decide) (fun c1 => ?_) (fun c1 => ?_)
    · replace h := md_t c1 h
      exact hE x3 h ls (lv_sub hl [1] rfl)
    replace h := md_f c1 h
    refine lv_lload_n hx hb dX1_raise_11 rfl (lv_at hl 1 rfl) ?_
    refine lv_ldc2 hx hb hown (hts _ wm_X1_raise_0) dX1_raise_12 ?_
    refine W.lcmp hx hb dX1_raise_15 ?_
    obtain ⟨kJ30, ekJ30, h⟩ := md_jo h
    have KJ30 : ∀ (z0_30 : Int64), kJ30 z0_30 = some res → ∀ (ls : Array Slot), lv_has ls 6 [(2, .int x2), (5, .int x5)] → W p l e rmX1_raise s m args below meth c s.heap [] 0 0 Q (F0 m 30 ls [.long z0_30]) := by
      intro z0_30 h ls hl
      rw [ekJ30] at h
      refine lv_lstore_n (lv' := [(3, .long z0_30), (2, .int x2), (5, .int x5)]) hx hb dX1_raise_30 rfl hl (by decide) rfl (fun ls hl => ?_)
      obtain ⟨x5_2, ex5_2⟩ : ∃ y : Int32, y = (x5 + (1 : Int32)) := ⟨_, rfl⟩
      replace h := md_le ex5_2 h
      refine lv_iinc (v := x5_2) (lv' := [(5, .int x5_2), (3, .long z0_30), (2, .int x2)]) hx hb dX1_raise_31 hl (k := 2) rfl (by rw [ex5_2]; rfl) (by decide) rfl (fun ls hl => ?_)
      refine lv_goto (tgt := 5) hx hb dX1_raise_34 (by decide) ?_
      exact ih z0_30 x5_2 h ls (lv_sub hl [2, 1, 0] rfl)
    clear ekJ30
    refine lv_if_lt (tgt := 25) hx hb dX1_raise_16 (by decide) (fun c3 => ?_) (fun c3 => ?_)
    · replace c3 := (lg_cmp_lt _ _).mp c3
      replace h := md_t c3 h
      refine lv_lload_n hx hb dX1_raise_25 rfl (lv_at hl 1 rfl) ?_
      refine lv_ldc2 hx hb hown (hts _ wm_X1_raise_1) dX1_raise_26 ?_
      refine lv_lmul hx hb dX1_raise_29 ?_
      exact KJ30 (x3 * (60 : Int64)) h ls (lv_sub hl [0, 2] rfl)
    replace c3 := fun q9 => c3 ((lg_cmp_lt _ _).mpr q9)
    replace h := md_f c3 h
    refine lv_ldc2 hx hb hown (hts _ wm_X1_raise_2) dX1_raise_19 ?_
    refine lv_goto (tgt := 30) hx hb dX1_raise_22 (by decide) ?_
    exact KJ30 (167961600000000 : Int64) h ls (lv_sub hl [0, 2] rfl)
def mX1_raise (p1 : Int64) (p2 : Int32) : Option Int64 := (mlX1_raise_5 p2 (fun (y3_37 : Int64) => (some y3_37)) kN p1 (0 : Int32))
set_option maxHeartbeats 4000000 in
set_option maxRecDepth 100000 in
theorem bX1_raise {p : Program} {l : Launch} {e : Env} {s : State} {m : MethodId} {args : Array Value} {below : List Frame} {meth : Method} {c : Code} {Q : State → Prop} (C : kc p s m args meth c cX1_raise 6 RX1 yX1_raise.name wsX1_raise (some .long)) (p1 : Int64) (p2 : Int32) (res : Int64) (hQ : ∀ (v : Int64) (pc : Nat) (ls : Array Slot), some v = some res → decode cX1_raise pc = .ok (.lreturn, 1) → W p l e rmX1_raise s m args below meth c s.heap [] 0 0 Q (F0 m pc ls [.long v])) : mX1_raise p1 p2 = some res → ∀ (ls : Array Slot), lv_has ls 6 [(0, .long p1), (2, .int p2)] → W p l e rmX1_raise s m args below meth c s.heap [] 0 0 Q (F0 m 0 ls []) := by
  intro h ls hl
  have C0 := C
  obtain ⟨hx, hb, hml, hown, hts, hr, hlk, hnm⟩ := C0
  rw [mX1_raise] at h
  refine lv_lload_n hx hb dX1_raise_0 rfl (lv_at hl 0 rfl) ?_
  refine lv_lstore_n (lv' := [(3, .long p1), (0, .long p1), (2, .int p2)]) hx hb dX1_raise_1 rfl hl (by decide) rfl (fun ls hl => ?_)
  refine lv_iconst (v := 0) hx hb dX1_raise_2 (by decide) ?_
  refine lv_istore (lv' := [(5, .int (0 : Int32)), (3, .long p1), (0, .long p1), (2, .int p2)]) hx hb dX1_raise_3 hl (by decide) rfl (fun ls hl => ?_)
  refine lX1_raise_5 C p2 res hQ _ (fun y3_37 h ls hl => ?_) kN p1 (0 : Int32) h ls (lv_sub hl [3, 1, 0] rfl)
  refine lv_lload_n hx hb dX1_raise_37 rfl (lv_at hl 0 rfl) ?_
  exact hQ y3_37 38 ls h dX1_raise_38
set_option maxHeartbeats 4000000 in
theorem ctX1_raise (l : Launch) {p1 : Int64} {p2 : Int32} {res : Int64} (hm : mX1_raise p1 p2 = some res) : Met l yX1_raise wsX1_raise rmX1_raise (va_Pc [.long p1, .int p2] (fun _ => True)) (kR (.long res)) 0 0 (fun _ => False) :=
  km (by decide) rfl (Nat.le_of_ble_eq_true rfl) (fun p e s m below meth c ls C hB hl => bX1_raise C p1 p2 res (fun v pc ls h hd => kr_l C h hd) hm ls hl)
theorem wm_X1_atPlace_0 : Cond.constantLong RX1 11 (60) ∈ wsX1_atPlace := by decide +kernel
theorem kdX1_atPlace : yX1_atPlace.cls ≠ "java/lang/invoke/MethodHandle" ∧ yX1_atPlace.cls ≠ "java/lang/invoke/VarHandle" ∧ (parseMethodDescriptor yX1_atPlace.desc).map (fun d => d.parameters.length) = some 2 := by decide +kernel
abbrev rmX1_atPlace : Room := { frames := 0, cells := 0, slots := 0, locals := 0 }
def mlX1_atPlace_5 (x2 : Int32) (kE : Int64 → Option Int64) : Nat → Int64 → Int32 → Option Int64
  | 0, _, _ => none
  | n + 1, x3, x5 => (if x2 ≤ x5 then (kE x3) else (if (8 : Int32) ≤ x5 then (kE x3) else (md_let (x3 * (60 : Int64)) (fun (x3_3 : Int64) => (md_let (x5 + (1 : Int32)) (fun (x5_4 : Int32) => (mlX1_atPlace_5 x2 kE n x3_3 x5_4)))))))
set_option maxHeartbeats 4000000 in
set_option maxRecDepth 100000 in
theorem lX1_atPlace_5 {p : Program} {l : Launch} {e : Env} {s : State} {m : MethodId} {args : Array Value} {below : List Frame} {meth : Method} {c : Code} {Q : State → Prop} (C : kc p s m args meth c cX1_atPlace 6 RX1 yX1_atPlace.name wsX1_atPlace (some .long)) (x2 : Int32) (res : Int64) (hQ : ∀ (v : Int64) (pc : Nat) (ls : Array Slot), some v = some res → decode cX1_atPlace pc = .ok (.lreturn, 1) → W p l e rmX1_atPlace s m args below meth c s.heap [] 0 0 Q (F0 m pc ls [.long v])) (kE : Int64 → Option Int64) (hE : ∀ (y3 : Int64), kE y3 = some res → ∀ (ls : Array Slot), lv_has ls 6 [(3, .long y3)] → W p l e rmX1_atPlace s m args below meth c s.heap [] 0 0 Q (F0 m 30 ls [])) : ∀ (n : Nat), ∀ (x3 : Int64) (x5 : Int32), mlX1_atPlace_5 x2 kE n x3 x5 = some res → ∀ (ls : Array Slot), lv_has ls 6 [(2, .int x2), (3, .long x3), (5, .int x5)] → W p l e rmX1_atPlace s m args below meth c s.heap [] 0 0 Q (F0 m 5 ls []) := by
  have C0 := C
  obtain ⟨hx, hb, hml, hown, hts, hr, hlk, hnm⟩ := C0
  intro n
  induction n with
  | zero => intro _ _ h; exact md_x h
  | succ n ih =>
    intro x3 x5 h ls hl
    rw [mlX1_atPlace_5] at h
    refine lv_iload hx hb dX1_atPlace_5 (lv_at hl 2 rfl) ?_
    refine lv_iload_n hx hb dX1_atPlace_7 rfl (lv_at hl 0 rfl) ?_
    refine lv_icmp_ge (tgt := 30) hx hb dX1_atPlace_8 (by decide) (fun c1 => ?_) (fun c1 => ?_)
    · replace h := md_t c1 h
      exact hE x3 h ls (lv_sub hl [1] rfl)
    replace h := md_f c1 h
    refine lv_iload hx hb dX1_atPlace_11 (lv_at hl 2 rfl) ?_
    refine lv_bipush (v := 8) hx hb dX1_atPlace_13 (by decide) ?_
    refine lv_icmp_ge (tgt := 30) hx hb dX1_atPlace_15 (by decide) (fun c2 => ?_) (fun c2 => ?_)
    · replace h := md_t c2 h
      exact hE x3 h ls (lv_sub hl [1] rfl)
    replace h := md_f c2 h
    refine lv_lload_n hx hb dX1_atPlace_18 rfl (lv_at hl 1 rfl) ?_
    refine lv_ldc2 hx hb hown (hts _ wm_X1_atPlace_0) dX1_atPlace_19 ?_
    refine lv_lmul hx hb dX1_atPlace_22 ?_
    refine lv_topl (fun x3_3 ex3_3 => ?_)
    replace h := md_le ex3_3 h
    refine lv_lstore_n (lv' := [(3, .long x3_3), (2, .int x2), (5, .int x5)]) hx hb dX1_atPlace_23 rfl hl (by decide) rfl (fun ls hl => ?_)
    obtain ⟨x5_4, ex5_4⟩ : ∃ y : Int32, y = (x5 + (1 : Int32)) := ⟨_, rfl⟩
    replace h := md_le ex5_4 h
    refine lv_iinc (v := x5_4) (lv' := [(5, .int x5_4), (3, .long x3_3), (2, .int x2)]) hx hb dX1_atPlace_24 hl (k := 2) rfl (by rw [ex5_4]; rfl) (by decide) rfl (fun ls hl => ?_)
    refine lv_goto (tgt := 5) hx hb dX1_atPlace_27 (by decide) ?_
    exact ih x3_3 x5_4 h ls (lv_sub hl [2, 1, 0] rfl)
def mX1_atPlace (p1 : Int64) (p2 : Int32) : Option Int64 := (mlX1_atPlace_5 p2 (fun (y3_30 : Int64) => (some y3_30)) kN p1 (0 : Int32))
set_option maxHeartbeats 4000000 in
set_option maxRecDepth 100000 in
theorem bX1_atPlace {p : Program} {l : Launch} {e : Env} {s : State} {m : MethodId} {args : Array Value} {below : List Frame} {meth : Method} {c : Code} {Q : State → Prop} (C : kc p s m args meth c cX1_atPlace 6 RX1 yX1_atPlace.name wsX1_atPlace (some .long)) (p1 : Int64) (p2 : Int32) (res : Int64) (hQ : ∀ (v : Int64) (pc : Nat) (ls : Array Slot), some v = some res → decode cX1_atPlace pc = .ok (.lreturn, 1) → W p l e rmX1_atPlace s m args below meth c s.heap [] 0 0 Q (F0 m pc ls [.long v])) : mX1_atPlace p1 p2 = some res → ∀ (ls : Array Slot), lv_has ls 6 [(0, .long p1), (2, .int p2)] → W p l e rmX1_atPlace s m args below meth c s.heap [] 0 0 Q (F0 m 0 ls []) := by
  intro h ls hl
  have C0 := C
  obtain ⟨hx, hb, hml, hown, hts, hr, hlk, hnm⟩ := C0
  rw [mX1_atPlace] at h
  refine lv_lload_n hx hb dX1_atPlace_0 rfl (lv_at hl 0 rfl) ?_
  refine lv_lstore_n (lv' := [(3, .long p1), (0, .long p1), (2, .int p2)]) hx hb dX1_atPlace_1 rfl hl (by decide) rfl (fun ls hl => ?_)
  refine lv_iconst (v := 0) hx hb dX1_atPlace_2 (by decide) ?_
  refine lv_istore (lv' := [(5, .int (0 : Int32)), (3, .long p1), (0, .long p1), (2, .int p2)]) hx hb dX1_atPlace_3 hl (by decide) rfl (fun ls hl => ?_)
  refine lX1_atPlace_5 C p2 res hQ _ (fun y3_30 h ls hl => ?_) kN p1 (0 : Int32) h ls (lv_sub hl [3, 1, 0] rfl)
  refine lv_lload_n hx hb dX1_atPlace_30 rfl (lv_at hl 0 rfl) ?_
  exact hQ y3_30 31 ls h dX1_atPlace_31
set_option maxHeartbeats 4000000 in
theorem ctX1_atPlace (l : Launch) {p1 : Int64} {p2 : Int32} {res : Int64} (hm : mX1_atPlace p1 p2 = some res) : Met l yX1_atPlace wsX1_atPlace rmX1_atPlace (va_Pc [.long p1, .int p2] (fun _ => True)) (kR (.long res)) 0 0 (fun _ => False) :=
  km (by decide) rfl (Nat.le_of_ble_eq_true rfl) (fun p e s m below meth c ls C hB hl => bX1_atPlace C p1 p2 res (fun v pc ls h hd => kr_l C h hd) hm ls hl)
theorem wm_X1_floorRoot_0 : Cond.constantLong RX1 19 (777600000) ∈ wsX1_floorRoot := by decide +kernel
theorem wm_X1_floorRoot_1 : Cond.constantLong RX1 21 (2) ∈ wsX1_floorRoot := by decide +kernel
theorem kdX1_floorRoot : yX1_floorRoot.cls ≠ "java/lang/invoke/MethodHandle" ∧ yX1_floorRoot.cls ≠ "java/lang/invoke/VarHandle" ∧ (parseMethodDescriptor yX1_floorRoot.desc).map (fun d => d.parameters.length) = some 1 := by decide +kernel
abbrev rmX1_floorRoot : Room := { frames := 0, cells := 0, slots := 0, locals := 0 }
def mlX1_floorRoot_10 (x0 : Int64) (kE : Int64 → Option Int64) : Nat → Int64 → Int64 → Int32 → Option Int64
  | 0, _, _, _ => none
  | n + 1, x2, x4, x6 => (if (31 : Int32) ≤ x6 then (kE x2) else (if (x4 - x2) ≤ (1 : Int64) then (kE x2) else (md_let ((x2 + x4) / (2 : Int64)) (fun (x7_3 : Int64) => (md_jn (fun (x2_56 : Int64) (x4_56 : Int64) => (md_let (x6 + (1 : Int32)) (fun (x6_4 : Int32) => (mlX1_floorRoot_10 x0 kE n x2_56 x4_56 x6_4)))) (fun kJ56 => (if x0 < (x7_3 * x7_3) then (kJ56 x2 x7_3) else (kJ56 x7_3 x4))))))))
set_option maxHeartbeats 4000000 in
set_option maxRecDepth 100000 in
theorem lX1_floorRoot_10 {p : Program} {l : Launch} {e : Env} {s : State} {m : MethodId} {args : Array Value} {below : List Frame} {meth : Method} {c : Code} {Q : State → Prop} (C : kc p s m args meth c cX1_floorRoot 9 RX1 yX1_floorRoot.name wsX1_floorRoot (some .long)) (x0 : Int64) (res : Int64) (hQ : ∀ (v : Int64) (pc : Nat) (ls : Array Slot), some v = some res → decode cX1_floorRoot pc = .ok (.lreturn, 1) → W p l e rmX1_floorRoot s m args below meth c s.heap [] 0 0 Q (F0 m pc ls [.long v])) (kE : Int64 → Option Int64) (hE : ∀ (y2 : Int64), kE y2 = some res → ∀ (ls : Array Slot), lv_has ls 9 [(2, .long y2)] → W p l e rmX1_floorRoot s m args below meth c s.heap [] 0 0 Q (F0 m 62 ls [])) : ∀ (n : Nat), ∀ (x2 : Int64) (x4 : Int64) (x6 : Int32), mlX1_floorRoot_10 x0 kE n x2 x4 x6 = some res → ∀ (ls : Array Slot), lv_has ls 9 [(0, .long x0), (2, .long x2), (4, .long x4), (6, .int x6)] → W p l e rmX1_floorRoot s m args below meth c s.heap [] 0 0 Q (F0 m 10 ls []) := by
  have C0 := C
  obtain ⟨hx, hb, hml, hown, hts, hr, hlk, hnm⟩ := C0
  intro n
  induction n with
  | zero => intro _ _ _ h; exact md_x h
  | succ n ih =>
    intro x2 x4 x6 h ls hl
    rw [mlX1_floorRoot_10] at h
    refine lv_iload hx hb dX1_floorRoot_10 (lv_at hl 3 rfl) ?_
    refine lv_bipush (v := 31) hx hb dX1_floorRoot_12 (by decide) ?_
    refine lv_icmp_ge (tgt := 62) hx hb dX1_floorRoot_14 (by decide) (fun c1 => ?_) (fun c1 => ?_)
    · replace h := md_t c1 h
      exact hE x2 h ls (lv_sub hl [1] rfl)
    replace h := md_f c1 h
    refine lv_lload hx hb dX1_floorRoot_17 (lv_at hl 2 rfl) ?_
    refine lv_lload_n hx hb dX1_floorRoot_19 rfl (lv_at hl 1 rfl) ?_
    refine lv_lsub hx hb dX1_floorRoot_20 ?_
    refine lv_lconst (v := 1) hx hb dX1_floorRoot_21 (by decide) ?_
    refine W.lcmp hx hb dX1_floorRoot_22 ?_
    refine lv_if_le (tgt := 62) hx hb dX1_floorRoot_23 (by decide) (fun c2 => ?_) (fun c2 => ?_)
    · replace c2 := (lg_cmp_le _ _).mp c2
      replace h := md_t c2 h
      exact hE x2 h ls (lv_sub hl [1] rfl)
    replace c2 := fun q9 => c2 ((lg_cmp_le _ _).mpr q9)
    replace h := md_f c2 h
    refine lv_lload_n hx hb dX1_floorRoot_26 rfl (lv_at hl 1 rfl) ?_
    refine lv_lload hx hb dX1_floorRoot_27 (lv_at hl 2 rfl) ?_
    refine lv_ladd hx hb dX1_floorRoot_29 ?_
    refine lv_ldc2 hx hb hown (hts _ wm_X1_floorRoot_1) dX1_floorRoot_30 ?_
    refine lv_ldiv hx hb dX1_floorRoot_33 (by decide) ?_
    refine lv_topl (fun x7_3 ex7_3 => ?_)
    replace h := md_le ex7_3 h
    refine lv_lstore (lv' := [(7, .long x7_3), (0, .long x0), (2, .long x2), (4, .long x4), (6, .int x6)]) hx hb dX1_floorRoot_34 hl (by decide) rfl (fun ls hl => ?_)
    refine lv_lload hx hb dX1_floorRoot_36 (lv_at hl 0 rfl) ?_
    refine lv_lload hx hb dX1_floorRoot_38 (lv_at hl 0 rfl) ?_
    refine lv_lmul hx hb dX1_floorRoot_40 ?_
    refine lv_lload_n hx hb dX1_floorRoot_41 rfl (lv_at hl 1 rfl) ?_
    refine W.lcmp hx hb dX1_floorRoot_42 ?_
    obtain ⟨kJ56, ekJ56, h⟩ := md_jo h
    have KJ56 : ∀ (x2_56 : Int64) (x4_56 : Int64), kJ56 x2_56 x4_56 = some res → ∀ (ls : Array Slot), lv_has ls 9 [(0, .long x0), (2, .long x2_56), (4, .long x4_56), (6, .int x6)] → W p l e rmX1_floorRoot s m args below meth c s.heap [] 0 0 Q (F0 m 56 ls []) := by
      intro x2_56 x4_56 h ls hl
      rw [ekJ56] at h
      obtain ⟨x6_4, ex6_4⟩ : ∃ y : Int32, y = (x6 + (1 : Int32)) := ⟨_, rfl⟩
      replace h := md_le ex6_4 h
      refine lv_iinc (v := x6_4) (lv' := [(6, .int x6_4), (0, .long x0), (2, .long x2_56), (4, .long x4_56)]) hx hb dX1_floorRoot_56 hl (k := 3) rfl (by rw [ex6_4]; rfl) (by decide) rfl (fun ls hl => ?_)
      refine lv_goto (tgt := 10) hx hb dX1_floorRoot_59 (by decide) ?_
      exact ih x2_56 x4_56 x6_4 h ls (lv_sub hl [1, 2, 3, 0] rfl)
    clear ekJ56
    refine lv_if_gt (tgt := 52) hx hb dX1_floorRoot_43 (by decide) (fun c5 => ?_) (fun c5 => ?_)
    · replace c5 := (lg_cmp_gt _ _).mp c5
      replace h := md_t c5 h
      refine lv_lload hx hb dX1_floorRoot_52 (lv_at hl 0 rfl) ?_
      refine lv_lstore (lv' := [(4, .long x7_3), (7, .long x7_3), (0, .long x0), (2, .long x2), (6, .int x6)]) hx hb dX1_floorRoot_54 hl (by decide) rfl (fun ls hl => ?_)
      exact KJ56 x2 x7_3 h ls (lv_sub hl [2, 3, 0, 4] rfl)
    replace c5 := fun q9 => c5 ((lg_cmp_gt _ _).mpr q9)
    replace h := md_f c5 h
    refine lv_lload hx hb dX1_floorRoot_46 (lv_at hl 0 rfl) ?_
    refine lv_lstore_n (lv' := [(2, .long x7_3), (7, .long x7_3), (0, .long x0), (4, .long x4), (6, .int x6)]) hx hb dX1_floorRoot_48 rfl hl (by decide) rfl (fun ls hl => ?_)
    refine lv_goto (tgt := 56) hx hb dX1_floorRoot_49 (by decide) ?_
    exact KJ56 x7_3 x4 h ls (lv_sub hl [2, 0, 3, 4] rfl)
def mX1_floorRoot (p1 : Int64) : Option Int64 := (mlX1_floorRoot_10 p1 (fun (y2_62 : Int64) => (some y2_62)) kN (0 : Int64) (777600000 : Int64) (0 : Int32))
set_option maxHeartbeats 4000000 in
set_option maxRecDepth 100000 in
theorem bX1_floorRoot {p : Program} {l : Launch} {e : Env} {s : State} {m : MethodId} {args : Array Value} {below : List Frame} {meth : Method} {c : Code} {Q : State → Prop} (C : kc p s m args meth c cX1_floorRoot 9 RX1 yX1_floorRoot.name wsX1_floorRoot (some .long)) (p1 : Int64) (res : Int64) (hQ : ∀ (v : Int64) (pc : Nat) (ls : Array Slot), some v = some res → decode cX1_floorRoot pc = .ok (.lreturn, 1) → W p l e rmX1_floorRoot s m args below meth c s.heap [] 0 0 Q (F0 m pc ls [.long v])) : mX1_floorRoot p1 = some res → ∀ (ls : Array Slot), lv_has ls 9 [(0, .long p1)] → W p l e rmX1_floorRoot s m args below meth c s.heap [] 0 0 Q (F0 m 0 ls []) := by
  intro h ls hl
  have C0 := C
  obtain ⟨hx, hb, hml, hown, hts, hr, hlk, hnm⟩ := C0
  rw [mX1_floorRoot] at h
  refine lv_lconst (v := 0) hx hb dX1_floorRoot_0 (by decide) ?_
  refine lv_lstore_n (lv' := [(2, .long (0 : Int64)), (0, .long p1)]) hx hb dX1_floorRoot_1 rfl hl (by decide) rfl (fun ls hl => ?_)
  refine lv_ldc2 hx hb hown (hts _ wm_X1_floorRoot_0) dX1_floorRoot_2 ?_
  refine lv_lstore (lv' := [(4, .long (777600000 : Int64)), (2, .long (0 : Int64)), (0, .long p1)]) hx hb dX1_floorRoot_5 hl (by decide) rfl (fun ls hl => ?_)
  refine lv_iconst (v := 0) hx hb dX1_floorRoot_7 (by decide) ?_
  refine lv_istore (lv' := [(6, .int (0 : Int32)), (4, .long (777600000 : Int64)), (2, .long (0 : Int64)), (0, .long p1)]) hx hb dX1_floorRoot_8 hl (by decide) rfl (fun ls hl => ?_)
  refine lX1_floorRoot_10 C p1 res hQ _ (fun y2_62 h ls hl => ?_) kN (0 : Int64) (777600000 : Int64) (0 : Int32) h ls (lv_sub hl [3, 2, 1, 0] rfl)
  refine lv_lload_n hx hb dX1_floorRoot_62 rfl (lv_at hl 0 rfl) ?_
  exact hQ y2_62 63 ls h dX1_floorRoot_63
set_option maxHeartbeats 4000000 in
theorem ctX1_floorRoot (l : Launch) {p1 : Int64} {res : Int64} (hm : mX1_floorRoot p1 = some res) : Met l yX1_floorRoot wsX1_floorRoot rmX1_floorRoot (va_Pc [.long p1] (fun _ => True)) (kR (.long res)) 0 0 (fun _ => False) :=
  km (by decide) rfl (Nat.le_of_ble_eq_true rfl) (fun p e s m below meth c ls C hB hl => bX1_floorRoot C p1 res (fun v pc ls h hd => kr_l C h hd) hm ls hl)
