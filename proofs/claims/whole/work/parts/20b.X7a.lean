theorem kdX7_in : yX7_in.cls ≠ "java/lang/invoke/MethodHandle" ∧ yX7_in.cls ≠ "java/lang/invoke/VarHandle" ∧ (parseMethodDescriptor yX7_in.desc).map (fun d => d.parameters.length) = some 3 := by decide +kernel
abbrev rmX7_in : Room := { frames := 0, cells := 0, slots := 0, locals := 0 }
def mX7_in (p1 : Int64) (p2 : Int64) (p3 : Int64) : Option Int32 := (if p1 < p2 then (some (0 : Int32)) else (if p3 < p1 then (some (0 : Int32)) else (some (1 : Int32))))
set_option maxHeartbeats 4000000 in
set_option maxRecDepth 100000 in
theorem bX7_in {p : Program} {l : Launch} {e : Env} {s : State} {m : MethodId} {args : Array Value} {below : List Frame} {meth : Method} {c : Code} {Q : State → Prop} (C : kc p s m args meth c cX7_in 6 RX7 yX7_in.name wsX7_in (some .boolean)) (p1 : Int64) (p2 : Int64) (p3 : Int64) (res : Int32) (hQ : ∀ (v : Int32) (pc : Nat) (ls : Array Slot), v = 0 ∨ v = 1 → some v = some res → decode cX7_in pc = .ok (.ireturn, 1) → W p l e rmX7_in s m args below meth c s.heap [] 0 0 Q (F0 m pc ls [.int v])) : mX7_in p1 p2 p3 = some res → ∀ (ls : Array Slot), lv_has ls 6 [(0, .long p1), (2, .long p2), (4, .long p3)] → W p l e rmX7_in s m args below meth c s.heap [] 0 0 Q (F0 m 0 ls []) := by
  intro h ls hl
  have C0 := C
  obtain ⟨hx, hb, hml, hown, hts, hr, hlk, hnm⟩ := C0
  rw [mX7_in] at h
  refine lv_lload_n hx hb dX7_in_0 rfl (lv_at hl 0 rfl) ?_
  refine lv_lload_n hx hb dX7_in_1 rfl (lv_at hl 1 rfl) ?_
  refine W.lcmp hx hb dX7_in_2 ?_
  refine lv_if_lt (tgt := 17) hx hb dX7_in_3 (by decide) (fun c1 => ?_) (fun c1 => ?_)
  · replace c1 := (lg_cmp_lt _ _).mp c1
    replace h := md_t c1 h
    refine lv_iconst (v := 0) hx hb dX7_in_17 (by decide) ?_
    exact hQ (0 : Int32) 18 ls (by decide) h dX7_in_18
  replace c1 := fun q9 => c1 ((lg_cmp_lt _ _).mpr q9)
  replace h := md_f c1 h
  refine lv_lload_n hx hb dX7_in_6 rfl (lv_at hl 0 rfl) ?_
  refine lv_lload hx hb dX7_in_7 (lv_at hl 2 rfl) ?_
  refine W.lcmp hx hb dX7_in_9 ?_
  refine lv_if_gt (tgt := 17) hx hb dX7_in_10 (by decide) (fun c2 => ?_) (fun c2 => ?_)
  · replace c2 := (lg_cmp_gt _ _).mp c2
    replace h := md_t c2 h
    refine lv_iconst (v := 0) hx hb dX7_in_17 (by decide) ?_
    exact hQ (0 : Int32) 18 ls (by decide) h dX7_in_18
  replace c2 := fun q9 => c2 ((lg_cmp_gt _ _).mpr q9)
  replace h := md_f c2 h
  refine lv_iconst (v := 1) hx hb dX7_in_13 (by decide) ?_
  refine lv_goto (tgt := 18) hx hb dX7_in_14 (by decide) ?_
  exact hQ (1 : Int32) 18 ls (by decide) h dX7_in_18
set_option maxHeartbeats 4000000 in
theorem ctX7_in (l : Launch) {p1 : Int64} {p2 : Int64} {p3 : Int64} {res : Int32} (hm : mX7_in p1 p2 p3 = some res) : Met l yX7_in wsX7_in rmX7_in (va_Pc [.long p1, .long p2, .long p3] (fun _ => True)) (kR (.int res)) 0 0 (fun _ => False) :=
  km (by decide) rfl (Nat.le_of_ble_eq_true rfl) (fun p e s m below meth c ls C hB hl => bX7_in C p1 p2 p3 res (fun v pc ls hz h hd => kr_z C hz h hd) hm ls hl)
theorem wm_X7_isGiven_0 : Cond.constantLong RX7 37 (167961599999999) ∈ wsX7_isGiven := by decide +kernel
theorem kdX7_isGiven : yX7_isGiven.cls ≠ "java/lang/invoke/MethodHandle" ∧ yX7_isGiven.cls ≠ "java/lang/invoke/VarHandle" ∧ (parseMethodDescriptor yX7_isGiven.desc).map (fun d => d.parameters.length) = some 1 := by decide +kernel
abbrev rmX7_isGiven : Room := { frames := 1, cells := 0, slots := 0, locals := 25 }
def mX7_isGiven (p1 : Int64) : Option Int32 := (Option.bind (mX7_in p1 (1 : Int64) (167961599999999 : Int64)) (fun u1 => (if u1 = 0 ∨ u1 = 1 then (some u1) else none)))
set_option maxHeartbeats 4000000 in
set_option maxRecDepth 100000 in
theorem bX7_isGiven {p : Program} {l : Launch} {e : Env} {s : State} {m : MethodId} {args : Array Value} {below : List Frame} {meth : Method} {c : Code} {Q : State → Prop} (C : kc p s m args meth c cX7_isGiven 2 RX7 yX7_isGiven.name wsX7_isGiven (some .boolean)) (p1 : Int64) (res : Int32) (hQ : ∀ (v : Int32) (pc : Nat) (ls : Array Slot), v = 0 ∨ v = 1 → some v = some res → decode cX7_isGiven pc = .ok (.ireturn, 1) → W p l e rmX7_isGiven s m args below meth c s.heap [] 0 0 Q (F0 m pc ls [.int v])) : mX7_isGiven p1 = some res → ∀ (ls : Array Slot), lv_has ls 2 [(0, .long p1)] → W p l e rmX7_isGiven s m args below meth c s.heap [] 0 0 Q (F0 m 0 ls []) := by
  intro h ls hl
  have C0 := C
  obtain ⟨hx, hb, hml, hown, hts, hr, hlk, hnm⟩ := C0
  rw [mX7_isGiven] at h
  refine lv_lload_n hx hb dX7_isGiven_0 rfl (lv_at hl 0 rfl) ?_
  refine lv_lconst (v := 1) hx hb dX7_isGiven_1 (by decide) ?_
  refine lv_ldc2 hx hb hown (hts _ wm_X7_isGiven_0) dX7_isGiven_2 ?_
  obtain ⟨u1, hu1, h⟩ := md_b h
  refine kS C (ctX7_in l  hu1) gX7_isGiven_X7_in rfl kdX7_in ⟨rfl, rfl⟩ ⟨by decide, by decide⟩ kT_blind (fun _ _ _ => trivial) rfl hl [] rfl (Nat.le_of_ble_eq_true rfl) dX7_isGiven_5 ⟨by decide, by decide⟩ ?_
  obtain ⟨hz2, h⟩ := md_z h
  exact hQ u1 8 ls hz2 h dX7_isGiven_8
set_option maxHeartbeats 4000000 in
theorem ctX7_isGiven (l : Launch) {p1 : Int64} {res : Int32} (hm : mX7_isGiven p1 = some res) : Met l yX7_isGiven wsX7_isGiven rmX7_isGiven (va_Pc [.long p1] (fun _ => True)) (kR (.int res)) 0 0 (fun _ => False) :=
  km (by decide) rfl (Nat.le_of_ble_eq_true rfl) (fun p e s m below meth c ls C hB hl => bX7_isGiven C p1 res (fun v pc ls hz h hd => kr_z C hz h hd) hm ls hl)
theorem wm_X7_power_0 : Cond.constantLong RX7 43 (60) ∈ wsX7_power := by decide +kernel
theorem kdX7_power : yX7_power.cls ≠ "java/lang/invoke/MethodHandle" ∧ yX7_power.cls ≠ "java/lang/invoke/VarHandle" ∧ (parseMethodDescriptor yX7_power.desc).map (fun d => d.parameters.length) = some 1 := by decide +kernel
abbrev rmX7_power : Room := { frames := 0, cells := 0, slots := 0, locals := 0 }
def mlX7_power_4 (x0 : Int32) (kE : Int64 → Option Int64) : Nat → Int64 → Int32 → Option Int64
  | 0, _, _ => none
  | n + 1, x1, x3 => (if x0 ≤ x3 then (kE x1) else (md_let (x1 * (60 : Int64)) (fun (x1_2 : Int64) => (md_let (x3 + (1 : Int32)) (fun (x3_3 : Int32) => (mlX7_power_4 x0 kE n x1_2 x3_3))))))
set_option maxHeartbeats 4000000 in
set_option maxRecDepth 100000 in
theorem lX7_power_4 {p : Program} {l : Launch} {e : Env} {s : State} {m : MethodId} {args : Array Value} {below : List Frame} {meth : Method} {c : Code} {Q : State → Prop} (C : kc p s m args meth c cX7_power 4 RX7 yX7_power.name wsX7_power (some .long)) (x0 : Int32) (res : Int64) (hQ : ∀ (v : Int64) (pc : Nat) (ls : Array Slot), some v = some res → decode cX7_power pc = .ok (.lreturn, 1) → W p l e rmX7_power s m args below meth c s.heap [] 0 0 Q (F0 m pc ls [.long v])) (kE : Int64 → Option Int64) (hE : ∀ (y1 : Int64), kE y1 = some res → ∀ (ls : Array Slot), lv_has ls 4 [(1, .long y1)] → W p l e rmX7_power s m args below meth c s.heap [] 0 0 Q (F0 m 21 ls [])) : ∀ (n : Nat), ∀ (x1 : Int64) (x3 : Int32), mlX7_power_4 x0 kE n x1 x3 = some res → ∀ (ls : Array Slot), lv_has ls 4 [(0, .int x0), (1, .long x1), (3, .int x3)] → W p l e rmX7_power s m args below meth c s.heap [] 0 0 Q (F0 m 4 ls []) := by
  have C0 := C
  obtain ⟨hx, hb, hml, hown, hts, hr, hlk, hnm⟩ := C0
  intro n
  induction n with
  | zero => intro _ _ h; exact md_x h
  | succ n ih =>
    intro x1 x3 h ls hl
    rw [mlX7_power_4] at h
    refine lv_iload_n hx hb dX7_power_4 rfl (lv_at hl 2 rfl) ?_
    refine lv_iload_n hx hb dX7_power_5 rfl (lv_at hl 0 rfl) ?_
    refine lv_icmp_ge (tgt := 21) hx hb dX7_power_6 (by decide) (fun c1 => ?_) (fun c1 => ?_)
    · replace h := md_t c1 h
      exact hE x1 h ls (lv_sub hl [1] rfl)
    replace h := md_f c1 h
    refine lv_lload_n hx hb dX7_power_9 rfl (lv_at hl 1 rfl) ?_
    refine lv_ldc2 hx hb hown (hts _ wm_X7_power_0) dX7_power_10 ?_
    refine lv_lmul hx hb dX7_power_13 ?_
    refine lv_topl (fun x1_2 ex1_2 => ?_)
    replace h := md_le ex1_2 h
    refine lv_lstore_n (lv' := [(1, .long x1_2), (0, .int x0), (3, .int x3)]) hx hb dX7_power_14 rfl hl (by decide) rfl (fun ls hl => ?_)
    obtain ⟨x3_3, ex3_3⟩ : ∃ y : Int32, y = (x3 + (1 : Int32)) := ⟨_, rfl⟩
    replace h := md_le ex3_3 h
    refine lv_iinc (v := x3_3) (lv' := [(3, .int x3_3), (1, .long x1_2), (0, .int x0)]) hx hb dX7_power_15 hl (k := 2) rfl (by rw [ex3_3]; rfl) (by decide) rfl (fun ls hl => ?_)
    refine lv_goto (tgt := 4) hx hb dX7_power_18 (by decide) ?_
    exact ih x1_2 x3_3 h ls (lv_sub hl [2, 1, 0] rfl)
def mX7_power (p1 : Int32) : Option Int64 := (mlX7_power_4 p1 (fun (y1_21 : Int64) => (some y1_21)) kN (1 : Int64) (0 : Int32))
set_option maxHeartbeats 4000000 in
set_option maxRecDepth 100000 in
theorem bX7_power {p : Program} {l : Launch} {e : Env} {s : State} {m : MethodId} {args : Array Value} {below : List Frame} {meth : Method} {c : Code} {Q : State → Prop} (C : kc p s m args meth c cX7_power 4 RX7 yX7_power.name wsX7_power (some .long)) (p1 : Int32) (res : Int64) (hQ : ∀ (v : Int64) (pc : Nat) (ls : Array Slot), some v = some res → decode cX7_power pc = .ok (.lreturn, 1) → W p l e rmX7_power s m args below meth c s.heap [] 0 0 Q (F0 m pc ls [.long v])) : mX7_power p1 = some res → ∀ (ls : Array Slot), lv_has ls 4 [(0, .int p1)] → W p l e rmX7_power s m args below meth c s.heap [] 0 0 Q (F0 m 0 ls []) := by
  intro h ls hl
  have C0 := C
  obtain ⟨hx, hb, hml, hown, hts, hr, hlk, hnm⟩ := C0
  rw [mX7_power] at h
  refine lv_lconst (v := 1) hx hb dX7_power_0 (by decide) ?_
  refine lv_lstore_n (lv' := [(1, .long (1 : Int64)), (0, .int p1)]) hx hb dX7_power_1 rfl hl (by decide) rfl (fun ls hl => ?_)
  refine lv_iconst (v := 0) hx hb dX7_power_2 (by decide) ?_
  refine lv_istore_n (lv' := [(3, .int (0 : Int32)), (1, .long (1 : Int64)), (0, .int p1)]) hx hb dX7_power_3 rfl hl (by decide) rfl (fun ls hl => ?_)
  refine lX7_power_4 C p1 res hQ _ (fun y1_21 h ls hl => ?_) kN (1 : Int64) (0 : Int32) h ls (lv_sub hl [2, 1, 0] rfl)
  refine lv_lload_n hx hb dX7_power_21 rfl (lv_at hl 0 rfl) ?_
  exact hQ y1_21 22 ls h dX7_power_22
set_option maxHeartbeats 4000000 in
theorem ctX7_power (l : Launch) {p1 : Int32} {res : Int64} (hm : mX7_power p1 = some res) : Met l yX7_power wsX7_power rmX7_power (va_Pc [.int p1] (fun _ => True)) (kR (.long res)) 0 0 (fun _ => False) :=
  km (by decide) rfl (Nat.le_of_ble_eq_true rfl) (fun p e s m below meth c ls C hB hl => bX7_power C p1 res (fun v pc ls h hd => kr_l C h hd) hm ls hl)
theorem wm_X7_sixtyOf_0 : Cond.constantLong RX7 43 (60) ∈ wsX7_sixtyOf := by decide +kernel
theorem kdX7_sixtyOf : yX7_sixtyOf.cls ≠ "java/lang/invoke/MethodHandle" ∧ yX7_sixtyOf.cls ≠ "java/lang/invoke/VarHandle" ∧ (parseMethodDescriptor yX7_sixtyOf.desc).map (fun d => d.parameters.length) = some 1 := by decide +kernel
abbrev rmX7_sixtyOf : Room := { frames := 0, cells := 0, slots := 0, locals := 0 }
def mlX7_sixtyOf_2 (kE : Int64 → Option Int64) : Nat → Int64 → Option Int64
  | 0, _ => none
  | n + 1, x2 => (if (x2 - x2 / (60 : Int64) * (60 : Int64)) = (0 : Int64) then (md_let (x2 / (60 : Int64)) (fun (x2_2 : Int64) => (mlX7_sixtyOf_2 kE n x2_2))) else (kE x2))
set_option maxHeartbeats 4000000 in
set_option maxRecDepth 100000 in
theorem lX7_sixtyOf_2 {p : Program} {l : Launch} {e : Env} {s : State} {m : MethodId} {args : Array Value} {below : List Frame} {meth : Method} {c : Code} {Q : State → Prop} (C : kc p s m args meth c cX7_sixtyOf 4 RX7 yX7_sixtyOf.name wsX7_sixtyOf (some .long)) (res : Int64) (hQ : ∀ (v : Int64) (pc : Nat) (ls : Array Slot), some v = some res → decode cX7_sixtyOf pc = .ok (.lreturn, 1) → W p l e rmX7_sixtyOf s m args below meth c s.heap [] 0 0 Q (F0 m pc ls [.long v])) (kE : Int64 → Option Int64) (hE : ∀ (y2 : Int64), kE y2 = some res → ∀ (ls : Array Slot), lv_has ls 4 [(2, .long y2)] → W p l e rmX7_sixtyOf s m args below meth c s.heap [] 0 0 Q (F0 m 21 ls [])) : ∀ (n : Nat), ∀ (x2 : Int64), mlX7_sixtyOf_2 kE n x2 = some res → ∀ (ls : Array Slot), lv_has ls 4 [(2, .long x2)] → W p l e rmX7_sixtyOf s m args below meth c s.heap [] 0 0 Q (F0 m 2 ls []) := by
  have C0 := C
  obtain ⟨hx, hb, hml, hown, hts, hr, hlk, hnm⟩ := C0
  intro n
  induction n with
  | zero => intro _ h; exact md_x h
  | succ n ih =>
    intro x2 h ls hl
    rw [mlX7_sixtyOf_2] at h
    refine lv_lload_n hx hb dX7_sixtyOf_2 rfl (lv_at hl 0 rfl) ?_
    refine lv_ldc2 hx hb hown (hts _ wm_X7_sixtyOf_0) dX7_sixtyOf_3 ?_
    refine lv_lrem hx hb dX7_sixtyOf_6 (by decide) ?_
    refine lv_lconst (v := 0) hx hb dX7_sixtyOf_7 (by decide) ?_
    refine W.lcmp hx hb dX7_sixtyOf_8 ?_
    refine lv_if_ne (tgt := 21) hx hb dX7_sixtyOf_9 (by decide) (fun c1 => ?_) (fun c1 => ?_)
    · replace c1 := fun q9 => c1 ((lg_cmp_eq _ _).mpr q9)
      replace h := md_f c1 h
      exact hE x2 h ls (lv_sub hl [0] rfl)
    replace c1 := (lg_cmp_eq _ _).mp c1
    replace h := md_t c1 h
    refine lv_lload_n hx hb dX7_sixtyOf_12 rfl (lv_at hl 0 rfl) ?_
    refine lv_ldc2 hx hb hown (hts _ wm_X7_sixtyOf_0) dX7_sixtyOf_13 ?_
    refine lv_ldiv hx hb dX7_sixtyOf_16 (by decide) ?_
    refine lv_topl (fun x2_2 ex2_2 => ?_)
    replace h := md_le ex2_2 h
    refine lv_lstore_n (lv' := [(2, .long x2_2)]) hx hb dX7_sixtyOf_17 rfl hl (by decide) rfl (fun ls hl => ?_)
    refine lv_goto (tgt := 2) hx hb dX7_sixtyOf_18 (by decide) ?_
    exact ih x2_2 h ls (lv_sub hl [0] rfl)
def mX7_sixtyOf (p1 : Int64) : Option Int64 := (mlX7_sixtyOf_2 (fun (y2_21 : Int64) => (some y2_21)) kN p1)
set_option maxHeartbeats 4000000 in
set_option maxRecDepth 100000 in
theorem bX7_sixtyOf {p : Program} {l : Launch} {e : Env} {s : State} {m : MethodId} {args : Array Value} {below : List Frame} {meth : Method} {c : Code} {Q : State → Prop} (C : kc p s m args meth c cX7_sixtyOf 4 RX7 yX7_sixtyOf.name wsX7_sixtyOf (some .long)) (p1 : Int64) (res : Int64) (hQ : ∀ (v : Int64) (pc : Nat) (ls : Array Slot), some v = some res → decode cX7_sixtyOf pc = .ok (.lreturn, 1) → W p l e rmX7_sixtyOf s m args below meth c s.heap [] 0 0 Q (F0 m pc ls [.long v])) : mX7_sixtyOf p1 = some res → ∀ (ls : Array Slot), lv_has ls 4 [(0, .long p1)] → W p l e rmX7_sixtyOf s m args below meth c s.heap [] 0 0 Q (F0 m 0 ls []) := by
  intro h ls hl
  have C0 := C
  obtain ⟨hx, hb, hml, hown, hts, hr, hlk, hnm⟩ := C0
  rw [mX7_sixtyOf] at h
  refine lv_lload_n hx hb dX7_sixtyOf_0 rfl (lv_at hl 0 rfl) ?_
  refine lv_lstore_n (lv' := [(2, .long p1), (0, .long p1)]) hx hb dX7_sixtyOf_1 rfl hl (by decide) rfl (fun ls hl => ?_)
  refine lX7_sixtyOf_2 C res hQ _ (fun y2_21 h ls hl => ?_) kN p1 h ls (lv_sub hl [0] rfl)
  refine lv_lload_n hx hb dX7_sixtyOf_21 rfl (lv_at hl 0 rfl) ?_
  exact hQ y2_21 22 ls h dX7_sixtyOf_22
set_option maxHeartbeats 4000000 in
theorem ctX7_sixtyOf (l : Launch) {p1 : Int64} {res : Int64} (hm : mX7_sixtyOf p1 = some res) : Met l yX7_sixtyOf wsX7_sixtyOf rmX7_sixtyOf (va_Pc [.long p1] (fun _ => True)) (kR (.long res)) 0 0 (fun _ => False) :=
  km (by decide) rfl (Nat.le_of_ble_eq_true rfl) (fun p e s m below meth c ls C hB hl => bX7_sixtyOf C p1 res (fun v pc ls h hd => kr_l C h hd) hm ls hl)
theorem wm_X7_digits_0 : Cond.constantLong RX7 43 (60) ∈ wsX7_digits := by decide +kernel
theorem kdX7_digits : yX7_digits.cls ≠ "java/lang/invoke/MethodHandle" ∧ yX7_digits.cls ≠ "java/lang/invoke/VarHandle" ∧ (parseMethodDescriptor yX7_digits.desc).map (fun d => d.parameters.length) = some 1 := by decide +kernel
abbrev rmX7_digits : Room := { frames := 0, cells := 0, slots := 0, locals := 0 }
def mlX7_digits_4 (kE : Int32 → Option Int32) : Nat → Int32 → Int64 → Option Int32
  | 0, _, _ => none
  | n + 1, x2, x3 => (if x3 ≤ (0 : Int64) then (kE x2) else (md_let (x2 + (1 : Int32)) (fun (x2_2 : Int32) => (md_let (x3 / (60 : Int64)) (fun (x3_3 : Int64) => (mlX7_digits_4 kE n x2_2 x3_3))))))
set_option maxHeartbeats 4000000 in
set_option maxRecDepth 100000 in
theorem lX7_digits_4 {p : Program} {l : Launch} {e : Env} {s : State} {m : MethodId} {args : Array Value} {below : List Frame} {meth : Method} {c : Code} {Q : State → Prop} (C : kc p s m args meth c cX7_digits 5 RX7 yX7_digits.name wsX7_digits (some .int)) (res : Int32) (hQ : ∀ (v : Int32) (pc : Nat) (ls : Array Slot), some v = some res → decode cX7_digits pc = .ok (.ireturn, 1) → W p l e rmX7_digits s m args below meth c s.heap [] 0 0 Q (F0 m pc ls [.int v])) (kE : Int32 → Option Int32) (hE : ∀ (y2 : Int32), kE y2 = some res → ∀ (ls : Array Slot), lv_has ls 5 [(2, .int y2)] → W p l e rmX7_digits s m args below meth c s.heap [] 0 0 Q (F0 m 22 ls [])) : ∀ (n : Nat), ∀ (x2 : Int32) (x3 : Int64), mlX7_digits_4 kE n x2 x3 = some res → ∀ (ls : Array Slot), lv_has ls 5 [(2, .int x2), (3, .long x3)] → W p l e rmX7_digits s m args below meth c s.heap [] 0 0 Q (F0 m 4 ls []) := by
  have C0 := C
  obtain ⟨hx, hb, hml, hown, hts, hr, hlk, hnm⟩ := C0
  intro n
  induction n with
  | zero => intro _ _ h; exact md_x h
  | succ n ih =>
    intro x2 x3 h ls hl
    rw [mlX7_digits_4] at h
    refine lv_lload_n hx hb dX7_digits_4 rfl (lv_at hl 1 rfl) ?_
    refine lv_lconst (v := 0) hx hb dX7_digits_5 (by decide) ?_
    refine W.lcmp hx hb dX7_digits_6 ?_
    refine lv_if_le (tgt := 22) hx hb dX7_digits_7 (by decide) (fun c1 => ?_) (fun c1 => ?_)
    · replace c1 := (lg_cmp_le _ _).mp c1
      replace h := md_t c1 h
      exact hE x2 h ls (lv_sub hl [0] rfl)
    replace c1 := fun q9 => c1 ((lg_cmp_le _ _).mpr q9)
    replace h := md_f c1 h
    obtain ⟨x2_2, ex2_2⟩ : ∃ y : Int32, y = (x2 + (1 : Int32)) := ⟨_, rfl⟩
    replace h := md_le ex2_2 h
    refine lv_iinc (v := x2_2) (lv' := [(2, .int x2_2), (3, .long x3)]) hx hb dX7_digits_10 hl (k := 0) rfl (by rw [ex2_2]; rfl) (by decide) rfl (fun ls hl => ?_)
    refine lv_lload_n hx hb dX7_digits_13 rfl (lv_at hl 1 rfl) ?_
    refine lv_ldc2 hx hb hown (hts _ wm_X7_digits_0) dX7_digits_14 ?_
    refine lv_ldiv hx hb dX7_digits_17 (by decide) ?_
    refine lv_topl (fun x3_3 ex3_3 => ?_)
    replace h := md_le ex3_3 h
    refine lv_lstore_n (lv' := [(3, .long x3_3), (2, .int x2_2)]) hx hb dX7_digits_18 rfl hl (by decide) rfl (fun ls hl => ?_)
    refine lv_goto (tgt := 4) hx hb dX7_digits_19 (by decide) ?_
    exact ih x2_2 x3_3 h ls (lv_sub hl [1, 0] rfl)
def mX7_digits (p1 : Int64) : Option Int32 := (mlX7_digits_4 (fun (y2_22 : Int32) => (some y2_22)) kN (0 : Int32) p1)
set_option maxHeartbeats 4000000 in
set_option maxRecDepth 100000 in
theorem bX7_digits {p : Program} {l : Launch} {e : Env} {s : State} {m : MethodId} {args : Array Value} {below : List Frame} {meth : Method} {c : Code} {Q : State → Prop} (C : kc p s m args meth c cX7_digits 5 RX7 yX7_digits.name wsX7_digits (some .int)) (p1 : Int64) (res : Int32) (hQ : ∀ (v : Int32) (pc : Nat) (ls : Array Slot), some v = some res → decode cX7_digits pc = .ok (.ireturn, 1) → W p l e rmX7_digits s m args below meth c s.heap [] 0 0 Q (F0 m pc ls [.int v])) : mX7_digits p1 = some res → ∀ (ls : Array Slot), lv_has ls 5 [(0, .long p1)] → W p l e rmX7_digits s m args below meth c s.heap [] 0 0 Q (F0 m 0 ls []) := by
  intro h ls hl
  have C0 := C
  obtain ⟨hx, hb, hml, hown, hts, hr, hlk, hnm⟩ := C0
  rw [mX7_digits] at h
  refine lv_iconst (v := 0) hx hb dX7_digits_0 (by decide) ?_
  refine lv_istore_n (lv' := [(2, .int (0 : Int32)), (0, .long p1)]) hx hb dX7_digits_1 rfl hl (by decide) rfl (fun ls hl => ?_)
  refine lv_lload_n hx hb dX7_digits_2 rfl (lv_at hl 1 rfl) ?_
  refine lv_lstore_n (lv' := [(3, .long p1), (2, .int (0 : Int32)), (0, .long p1)]) hx hb dX7_digits_3 rfl hl (by decide) rfl (fun ls hl => ?_)
  refine lX7_digits_4 C res hQ _ (fun y2_22 h ls hl => ?_) kN (0 : Int32) p1 h ls (lv_sub hl [1, 0] rfl)
  refine lv_iload_n hx hb dX7_digits_22 rfl (lv_at hl 0 rfl) ?_
  exact hQ y2_22 23 ls h dX7_digits_23
set_option maxHeartbeats 4000000 in
theorem ctX7_digits (l : Launch) {p1 : Int64} {res : Int32} (hm : mX7_digits p1 = some res) : Met l yX7_digits wsX7_digits rmX7_digits (va_Pc [.long p1] (fun _ => True)) (kR (.int res)) 0 0 (fun _ => False) :=
  km (by decide) rfl (Nat.le_of_ble_eq_true rfl) (fun p e s m below meth c ls C hB hl => bX7_digits C p1 res (fun v pc ls h hd => kr_i C h hd) hm ls hl)
theorem wm_X7_digitAt_0 : Cond.constantLong RX7 43 (60) ∈ wsX7_digitAt := by decide +kernel
theorem kdX7_digitAt : yX7_digitAt.cls ≠ "java/lang/invoke/MethodHandle" ∧ yX7_digitAt.cls ≠ "java/lang/invoke/VarHandle" ∧ (parseMethodDescriptor yX7_digitAt.desc).map (fun d => d.parameters.length) = some 2 := by decide +kernel
abbrev rmX7_digitAt : Room := { frames := 1, cells := 0, slots := 0, locals := 23 }
def mX7_digitAt (p1 : Int64) (p2 : Int32) : Option Int32 := (Option.bind (mX7_power p2) (fun u1 => (if u1 = 0 then none else (some (Int64.toInt32 ((p1 / u1) - (p1 / u1) / (60 : Int64) * (60 : Int64)))))))
set_option maxHeartbeats 4000000 in
set_option maxRecDepth 100000 in
theorem bX7_digitAt {p : Program} {l : Launch} {e : Env} {s : State} {m : MethodId} {args : Array Value} {below : List Frame} {meth : Method} {c : Code} {Q : State → Prop} (C : kc p s m args meth c cX7_digitAt 3 RX7 yX7_digitAt.name wsX7_digitAt (some .int)) (p1 : Int64) (p2 : Int32) (res : Int32) (hQ : ∀ (v : Int32) (pc : Nat) (ls : Array Slot), some v = some res → decode cX7_digitAt pc = .ok (.ireturn, 1) → W p l e rmX7_digitAt s m args below meth c s.heap [] 0 0 Q (F0 m pc ls [.int v])) : mX7_digitAt p1 p2 = some res → ∀ (ls : Array Slot), lv_has ls 3 [(0, .long p1), (2, .int p2)] → W p l e rmX7_digitAt s m args below meth c s.heap [] 0 0 Q (F0 m 0 ls []) := by
  intro h ls hl
  have C0 := C
  obtain ⟨hx, hb, hml, hown, hts, hr, hlk, hnm⟩ := C0
  rw [mX7_digitAt] at h
  refine lv_lload_n hx hb dX7_digitAt_0 rfl (lv_at hl 0 rfl) ?_
  refine lv_iload_n hx hb dX7_digitAt_1 rfl (lv_at hl 1 rfl) ?_
  obtain ⟨u1, hu1, h⟩ := md_b h
  refine kS C (ctX7_power l  hu1) gX7_digitAt_X7_power rfl kdX7_power ⟨rfl, rfl⟩ ⟨by decide, by decide⟩ kT_blind (fun _ _ _ => trivial) rfl hl [.long p1] rfl (Nat.le_of_ble_eq_true rfl) dX7_digitAt_2 ⟨by decide, by decide⟩ ?_
  obtain ⟨hz2, h⟩ := md_g h
  refine lv_ldiv hx hb dX7_digitAt_5 hz2 ?_
  refine lv_ldc2 hx hb hown (hts _ wm_X7_digitAt_0) dX7_digitAt_6 ?_
  refine lv_lrem hx hb dX7_digitAt_9 (by decide) ?_
  refine lv_l2i hx hb dX7_digitAt_10 rfl ?_
  exact hQ (Int64.toInt32 ((p1 / u1) - (p1 / u1) / (60 : Int64) * (60 : Int64))) 11 ls h dX7_digitAt_11
set_option maxHeartbeats 4000000 in
theorem ctX7_digitAt (l : Launch) {p1 : Int64} {p2 : Int32} {res : Int32} (hm : mX7_digitAt p1 p2 = some res) : Met l yX7_digitAt wsX7_digitAt rmX7_digitAt (va_Pc [.long p1, .int p2] (fun _ => True)) (kR (.int res)) 0 0 (fun _ => False) :=
  km (by decide) rfl (Nat.le_of_ble_eq_true rfl) (fun p e s m below meth c ls C hB hl => bX7_digitAt C p1 p2 res (fun v pc ls h hd => kr_i C h hd) hm ls hl)
theorem wm_X7_sixty_0 : Cond.constantLong RX7 57 (-1000000000000000002) ∈ wsX7_sixty := by decide +kernel
theorem kdvX7_sixty : yX7_sixty.cls = RX7 ∧ yX7_sixty.cls ≠ "java/lang/invoke/MethodHandle" ∧ yX7_sixty.cls ≠ "java/lang/invoke/VarHandle" ∧ (parseMethodDescriptor yX7_sixty.desc).map (fun d => d.parameters.length) = some 1 := by decide +kernel
abbrev rmX7_sixty : Room := { frames := 2, cells := 0, slots := 0, locals := 46 }
def mX7_sixty (p1 : Int64) : Option Int64 := (Option.bind (mX7_isGiven p1) (fun u1 => (if u1 = 0 then (some (-1000000000000000002 : Int64)) else (Option.bind (mX7_sixtyOf p1) (fun u3 => (some u3))))))
set_option maxHeartbeats 4000000 in
set_option maxRecDepth 100000 in
theorem bX7_sixty {p : Program} {l : Launch} {e : Env} {s : State} {m : MethodId} {args : Array Value} {below : List Frame} {meth : Method} {c : Code} {Q : State → Prop} (C : kc p s m args meth c cX7_sixty 3 RX7 yX7_sixty.name wsX7_sixty (some .long)) {mo : Nat} (p1 : Int64) (res : Int64) (hQ : ∀ (v : Int64) (pc : Nat) (ls : Array Slot), some v = some res → decode cX7_sixty pc = .ok (.lreturn, 1) → W p l e rmX7_sixty s m args below meth c s.heap [] 0 0 Q (F0 m pc ls [.long v])) : mX7_sixty p1 = some res → ∀ (ls : Array Slot), lv_has ls 3 [(0, .ref mo), (1, .long p1)] → W p l e rmX7_sixty s m args below meth c s.heap [] 0 0 Q (F0 m 0 ls []) := by
  intro h ls hl
  have C0 := C
  obtain ⟨hx, hb, hml, hown, hts, hr, hlk, hnm⟩ := C0
  rw [mX7_sixty] at h
  refine lv_lload_n hx hb dX7_sixty_0 rfl (lv_at hl 1 rfl) ?_
  obtain ⟨u1, hu1, h⟩ := md_b h
  refine kS C (ctX7_isGiven l  hu1) gX7_sixty_X7_isGiven rfl kdX7_isGiven ⟨rfl, rfl⟩ ⟨by decide, by decide⟩ kT_blind (fun _ _ _ => trivial) rfl hl [] rfl (Nat.le_of_ble_eq_true rfl) dX7_sixty_1 ⟨by decide, by decide⟩ ?_
  refine lv_if_eq (tgt := 14) hx hb dX7_sixty_4 (by decide) (fun c2 => ?_) (fun c2 => ?_)
  · replace h := md_t c2 h
    refine lv_ldc2 hx hb hown (hts _ wm_X7_sixty_0) dX7_sixty_14 ?_
    exact hQ (-1000000000000000002 : Int64) 17 ls h dX7_sixty_17
  replace h := md_f c2 h
  refine lv_lload_n hx hb dX7_sixty_7 rfl (lv_at hl 1 rfl) ?_
  obtain ⟨u3, hu3, h⟩ := md_b h
  refine kS C (ctX7_sixtyOf l  hu3) gX7_sixty_X7_sixtyOf rfl kdX7_sixtyOf ⟨rfl, rfl⟩ ⟨by decide, by decide⟩ kT_blind (fun _ _ _ => trivial) rfl hl [] rfl (Nat.le_of_ble_eq_true rfl) dX7_sixty_8 ⟨by decide, by decide⟩ ?_
  refine lv_goto (tgt := 17) hx hb dX7_sixty_11 (by decide) ?_
  exact hQ u3 17 ls h dX7_sixty_17
set_option maxHeartbeats 4000000 in
theorem ctX7_sixty (l : Launch) {mo : Nat} {p1 : Int64} {res : Int64} (hm : mX7_sixty p1 = some res) : Met l yX7_sixty wsX7_sixty rmX7_sixty (va_Pc [.ref mo, .long p1] (fun _ => True)) (kR (.long res)) 0 0 (fun _ => False) :=
  km (by decide) rfl (Nat.le_of_ble_eq_true rfl) (fun p e s m below meth c ls C hB hl => bX7_sixty C p1 res (fun v pc ls h hd => kr_l C h hd) hm ls hl)
theorem kdvX7_digit : yX7_digit.cls = RX7 ∧ yX7_digit.cls ≠ "java/lang/invoke/MethodHandle" ∧ yX7_digit.cls ≠ "java/lang/invoke/VarHandle" ∧ (parseMethodDescriptor yX7_digit.desc).map (fun d => d.parameters.length) = some 2 := by decide +kernel
abbrev rmX7_digit : Room := { frames := 2, cells := 0, slots := 0, locals := 46 }
def mX7_digit (p1 : Int64) (p2 : Int32) : Option Int32 := (Option.bind (mX7_isGiven p1) (fun u1 => (if u1 = 0 then (some (-2 : Int32)) else (Option.bind (mX7_sixtyOf p1) (fun u3 => (Option.bind (mX7_digits u3) (fun u4 => (if p2 = (-1 : Int32) then (some u4) else (Option.bind (mX7_in (Int32.toInt64 p2) (0 : Int64) (Int32.toInt64 (u4 - (1 : Int32)))) (fun u6 => (if u6 = 0 then (some (-6 : Int32)) else (Option.bind (mX7_digitAt u3 ((u4 - (1 : Int32)) - p2)) (fun u8 => (some u8))))))))))))))
set_option maxHeartbeats 4000000 in
set_option maxRecDepth 100000 in
theorem bX7_digit {p : Program} {l : Launch} {e : Env} {s : State} {m : MethodId} {args : Array Value} {below : List Frame} {meth : Method} {c : Code} {Q : State → Prop} (C : kc p s m args meth c cX7_digit 7 RX7 yX7_digit.name wsX7_digit (some .int)) {mo : Nat} (p1 : Int64) (p2 : Int32) (res : Int32) (hQ : ∀ (v : Int32) (pc : Nat) (ls : Array Slot), some v = some res → decode cX7_digit pc = .ok (.ireturn, 1) → W p l e rmX7_digit s m args below meth c s.heap [] 0 0 Q (F0 m pc ls [.int v])) : mX7_digit p1 p2 = some res → ∀ (ls : Array Slot), lv_has ls 7 [(0, .ref mo), (1, .long p1), (3, .int p2)] → W p l e rmX7_digit s m args below meth c s.heap [] 0 0 Q (F0 m 0 ls []) := by
  intro h ls hl
  have C0 := C
  obtain ⟨hx, hb, hml, hown, hts, hr, hlk, hnm⟩ := C0
  rw [mX7_digit] at h
  refine lv_lload_n hx hb dX7_digit_0 rfl (lv_at hl 1 rfl) ?_
  obtain ⟨u1, hu1, h⟩ := md_b h
  refine kS C (ctX7_isGiven l  hu1) gX7_digit_X7_isGiven rfl kdX7_isGiven ⟨rfl, rfl⟩ ⟨by decide, by decide⟩ kT_blind (fun _ _ _ => trivial) rfl hl [] rfl (Nat.le_of_ble_eq_true rfl) dX7_digit_1 ⟨by decide, by decide⟩ ?_
  refine lv_if_ne (tgt := 10) hx hb dX7_digit_4 (by decide) (fun c2 => ?_) (fun c2 => ?_)
  · replace h := md_f c2 h
    refine lv_lload_n hx hb dX7_digit_10 rfl (lv_at hl 1 rfl) ?_
    obtain ⟨u3, hu3, h⟩ := md_b h
    refine kS C (ctX7_sixtyOf l  hu3) gX7_digit_X7_sixtyOf rfl kdX7_sixtyOf ⟨rfl, rfl⟩ ⟨by decide, by decide⟩ kT_blind (fun _ _ _ => trivial) rfl hl [] rfl (Nat.le_of_ble_eq_true rfl) dX7_digit_11 ⟨by decide, by decide⟩ ?_
    refine lv_lstore (lv' := [(4, .long u3), (0, .ref mo), (1, .long p1), (3, .int p2)]) hx hb dX7_digit_14 hl (by decide) rfl (fun ls hl => ?_)
    refine lv_lload hx hb dX7_digit_16 (lv_at hl 0 rfl) ?_
    obtain ⟨u4, hu4, h⟩ := md_b h
    refine kS C (ctX7_digits l  hu4) gX7_digit_X7_digits rfl kdX7_digits ⟨rfl, rfl⟩ ⟨by decide, by decide⟩ kT_blind (fun _ _ _ => trivial) rfl hl [] rfl (Nat.le_of_ble_eq_true rfl) dX7_digit_18 ⟨by decide, by decide⟩ ?_
    refine lv_istore (lv' := [(6, .int u4), (4, .long u3), (0, .ref mo), (1, .long p1), (3, .int p2)]) hx hb dX7_digit_21 hl (by decide) rfl (fun ls hl => ?_)
    refine lv_iload_n hx hb dX7_digit_23 rfl (lv_at hl 4 rfl) ?_
    refine lv_iconst (v := -1) hx hb dX7_digit_24 (by decide) ?_
    refine lv_icmp_ne (tgt := 33) hx hb dX7_digit_25 (by decide) (fun c5 => ?_) (fun c5 => ?_)
    · replace h := md_f c5 h
      refine lv_iload_n hx hb dX7_digit_33 rfl (lv_at hl 4 rfl) ?_
      refine lv_i2l hx hb dX7_digit_34 rfl ?_
      refine lv_lconst (v := 0) hx hb dX7_digit_35 (by decide) ?_
      refine lv_iload hx hb dX7_digit_36 (lv_at hl 0 rfl) ?_
      refine lv_iconst (v := 1) hx hb dX7_digit_38 (by decide) ?_
      refine lv_isub hx hb dX7_digit_39 ?_
      refine lv_i2l hx hb dX7_digit_40 rfl ?_
      obtain ⟨u6, hu6, h⟩ := md_b h
      refine kS C (ctX7_in l  hu6) gX7_digit_X7_in rfl kdX7_in ⟨rfl, rfl⟩ ⟨by decide, by decide⟩ kT_blind (fun _ _ _ => trivial) rfl hl [] rfl (Nat.le_of_ble_eq_true rfl) dX7_digit_41 ⟨by decide, by decide⟩ ?_
      refine lv_if_eq (tgt := 61) hx hb dX7_digit_44 (by decide) (fun c7 => ?_) (fun c7 => ?_)
      · replace h := md_t c7 h
        refine lv_bipush (v := -6) hx hb dX7_digit_61 (by decide) ?_
        exact hQ (-6 : Int32) 63 ls h dX7_digit_63
      replace h := md_f c7 h
      refine lv_lload hx hb dX7_digit_47 (lv_at hl 1 rfl) ?_
      refine lv_iload hx hb dX7_digit_49 (lv_at hl 0 rfl) ?_
      refine lv_iconst (v := 1) hx hb dX7_digit_51 (by decide) ?_
      refine lv_isub hx hb dX7_digit_52 ?_
      refine lv_iload_n hx hb dX7_digit_53 rfl (lv_at hl 4 rfl) ?_
      refine lv_isub hx hb dX7_digit_54 ?_
      obtain ⟨u8, hu8, h⟩ := md_b h
      refine kS C (ctX7_digitAt l  hu8) gX7_digit_X7_digitAt rfl kdX7_digitAt ⟨rfl, rfl⟩ ⟨by decide, by decide⟩ kT_blind (fun _ _ _ => trivial) rfl hl [] rfl (Nat.le_of_ble_eq_true rfl) dX7_digit_55 ⟨by decide, by decide⟩ ?_
      refine lv_goto (tgt := 63) hx hb dX7_digit_58 (by decide) ?_
      exact hQ u8 63 ls h dX7_digit_63
    replace h := md_t c5 h
    refine lv_iload hx hb dX7_digit_28 (lv_at hl 0 rfl) ?_
    refine lv_goto (tgt := 63) hx hb dX7_digit_30 (by decide) ?_
    exact hQ u4 63 ls h dX7_digit_63
  replace h := md_t c2 h
  refine lv_bipush (v := -2) hx hb dX7_digit_7 (by decide) ?_
  exact hQ (-2 : Int32) 9 ls h dX7_digit_9
set_option maxHeartbeats 4000000 in
theorem ctX7_digit (l : Launch) {mo : Nat} {p1 : Int64} {p2 : Int32} {res : Int32} (hm : mX7_digit p1 p2 = some res) : Met l yX7_digit wsX7_digit rmX7_digit (va_Pc [.ref mo, .long p1, .int p2] (fun _ => True)) (kR (.int res)) 0 0 (fun _ => False) :=
  km (by decide) rfl (Nat.le_of_ble_eq_true rfl) (fun p e s m below meth c ls C hB hl => bX7_digit C p1 p2 res (fun v pc ls h hd => kr_i C h hd) hm ls hl)
theorem kdX7_sightOf : yX7_sightOf.cls ≠ "java/lang/invoke/MethodHandle" ∧ yX7_sightOf.cls ≠ "java/lang/invoke/VarHandle" ∧ (parseMethodDescriptor yX7_sightOf.desc).map (fun d => d.parameters.length) = some 2 := by decide +kernel
abbrev rmX7_sightOf : Room := { frames := 2, cells := 0, slots := 0, locals := 45 }
def mlX7_sightOf_10 (x0 : Int64) (x2 : Int32) (kE : Int32 → Option Int32) : Nat → Int32 → Int32 → Option Int32
  | 0, _, _ => none
  | n + 1, x3, x4 => (if x4 < 0 then (kE x3) else (Option.bind (mX7_digitAt x0 x4) (fun u4 => (md_jn (fun (x3_39 : Int32) => (md_let (x4 + (-1 : Int32)) (fun (x4_5 : Int32) => (mlX7_sightOf_10 x0 x2 kE n x3_39 x4_5)))) (fun kJ39 => (if u4 ≤ 0 then (kJ39 x3) else (if x3 = x2 then (Option.bind (mX7_digitAt x0 x4) (fun u9 => (some u9))) else (md_let (x3 + (1 : Int32)) (fun (x3_8 : Int32) => (kJ39 x3_8))))))))))
set_option maxHeartbeats 4000000 in
set_option maxRecDepth 100000 in
theorem lX7_sightOf_10 {p : Program} {l : Launch} {e : Env} {s : State} {m : MethodId} {args : Array Value} {below : List Frame} {meth : Method} {c : Code} {Q : State → Prop} (C : kc p s m args meth c cX7_sightOf 5 RX7 yX7_sightOf.name wsX7_sightOf (some .int)) (x0 : Int64) (x2 : Int32) (res : Int32) (hQ : ∀ (v : Int32) (pc : Nat) (ls : Array Slot), some v = some res → decode cX7_sightOf pc = .ok (.ireturn, 1) → W p l e rmX7_sightOf s m args below meth c s.heap [] 0 0 Q (F0 m pc ls [.int v])) (kE : Int32 → Option Int32) (hE : ∀ (y3 : Int32), kE y3 = some res → ∀ (ls : Array Slot), lv_has ls 5 [(2, .int x2), (3, .int y3)] → W p l e rmX7_sightOf s m args below meth c s.heap [] 0 0 Q (F0 m 45 ls [])) : ∀ (n : Nat), ∀ (x3 : Int32) (x4 : Int32), mlX7_sightOf_10 x0 x2 kE n x3 x4 = some res → ∀ (ls : Array Slot), lv_has ls 5 [(0, .long x0), (2, .int x2), (3, .int x3), (4, .int x4)] → W p l e rmX7_sightOf s m args below meth c s.heap [] 0 0 Q (F0 m 10 ls []) := by
  have C0 := C
  obtain ⟨hx, hb, hml, hown, hts, hr, hlk, hnm⟩ := C0
  intro n
  induction n with
  | zero => intro _ _ h; exact md_x h
  | succ n ih =>
    intro x3 x4 h ls hl
    rw [mlX7_sightOf_10] at h
    refine lv_iload hx hb dX7_sightOf_10 (lv_at hl 3 rfl) ?_
    refine lv_if_lt (tgt := 45) hx hb dX7_sightOf_12 (by decide) (fun c3 => ?_) (fun c3 => ?_)
    · replace h := md_t c3 h
      exact hE x3 h ls (lv_sub hl [1, 2] rfl)
    replace h := md_f c3 h
    refine lv_lload_n hx hb dX7_sightOf_15 rfl (lv_at hl 0 rfl) ?_
    refine lv_iload hx hb dX7_sightOf_16 (lv_at hl 3 rfl) ?_
    obtain ⟨u4, hu4, h⟩ := md_b h
    refine kS C (ctX7_digitAt l  hu4) gX7_sightOf_X7_digitAt rfl kdX7_digitAt ⟨rfl, rfl⟩ ⟨by decide, by decide⟩ kT_blind (fun _ _ _ => trivial) rfl hl [] rfl (Nat.le_of_ble_eq_true rfl) dX7_sightOf_18 ⟨by decide, by decide⟩ ?_
    obtain ⟨kJ39, ekJ39, h⟩ := md_jo h
    have KJ39 : ∀ (x3_39 : Int32), kJ39 x3_39 = some res → ∀ (ls : Array Slot), lv_has ls 5 [(0, .long x0), (2, .int x2), (3, .int x3_39), (4, .int x4)] → W p l e rmX7_sightOf s m args below meth c s.heap [] 0 0 Q (F0 m 39 ls []) := by
      intro x3_39 h ls hl
      rw [ekJ39] at h
      obtain ⟨x4_5, ex4_5⟩ : ∃ y : Int32, y = (x4 + (-1 : Int32)) := ⟨_, rfl⟩
      replace h := md_le ex4_5 h
      refine lv_iinc (v := x4_5) (lv' := [(4, .int x4_5), (0, .long x0), (2, .int x2), (3, .int x3_39)]) hx hb dX7_sightOf_39 hl (k := 3) rfl (by rw [ex4_5]; rfl) (by decide) rfl (fun ls hl => ?_)
      refine lv_goto (tgt := 10) hx hb dX7_sightOf_42 (by decide) ?_
      exact ih x3_39 x4_5 h ls (lv_sub hl [1, 2, 3, 0] rfl)
    clear ekJ39
    refine lv_if_le (tgt := 39) hx hb dX7_sightOf_21 (by decide) (fun c6 => ?_) (fun c6 => ?_)
    · replace h := md_t c6 h
      exact KJ39 x3 h ls (lv_sub hl [0, 1, 2, 3] rfl)
    replace h := md_f c6 h
    refine lv_iload_n hx hb dX7_sightOf_24 rfl (lv_at hl 2 rfl) ?_
    refine lv_iload_n hx hb dX7_sightOf_25 rfl (lv_at hl 1 rfl) ?_
    refine lv_icmp_ne (tgt := 36) hx hb dX7_sightOf_26 (by decide) (fun c7 => ?_) (fun c7 => ?_)
    · replace h := md_f c7 h
      obtain ⟨x3_8, ex3_8⟩ : ∃ y : Int32, y = (x3 + (1 : Int32)) := ⟨_, rfl⟩
      replace h := md_le ex3_8 h
      refine lv_iinc (v := x3_8) (lv' := [(3, .int x3_8), (0, .long x0), (2, .int x2), (4, .int x4)]) hx hb dX7_sightOf_36 hl (k := 2) rfl (by rw [ex3_8]; rfl) (by decide) rfl (fun ls hl => ?_)
      exact KJ39 x3_8 h ls (lv_sub hl [1, 2, 0, 3] rfl)
    replace h := md_t c7 h
    refine lv_lload_n hx hb dX7_sightOf_29 rfl (lv_at hl 0 rfl) ?_
    refine lv_iload hx hb dX7_sightOf_30 (lv_at hl 3 rfl) ?_
    obtain ⟨u9, hu9, h⟩ := md_b h
    refine kS C (ctX7_digitAt l  hu9) gX7_sightOf_X7_digitAt rfl kdX7_digitAt ⟨rfl, rfl⟩ ⟨by decide, by decide⟩ kT_blind (fun _ _ _ => trivial) rfl hl [] rfl (Nat.le_of_ble_eq_true rfl) dX7_sightOf_32 ⟨by decide, by decide⟩ ?_
    exact hQ u9 35 ls h dX7_sightOf_35
def mX7_sightOf (p1 : Int64) (p2 : Int32) : Option Int32 := (Option.bind (mX7_digits p1) (fun u1 => (md_let (u1 - (1 : Int32)) (fun (x4_2 : Int32) => (mlX7_sightOf_10 p1 p2 (fun (y3_45 : Int32) => (if p2 = (-1 : Int32) then (some y3_45) else (some (-6 : Int32)))) kN (0 : Int32) x4_2)))))
set_option maxHeartbeats 4000000 in
set_option maxRecDepth 100000 in
theorem bX7_sightOf {p : Program} {l : Launch} {e : Env} {s : State} {m : MethodId} {args : Array Value} {below : List Frame} {meth : Method} {c : Code} {Q : State → Prop} (C : kc p s m args meth c cX7_sightOf 5 RX7 yX7_sightOf.name wsX7_sightOf (some .int)) (p1 : Int64) (p2 : Int32) (res : Int32) (hQ : ∀ (v : Int32) (pc : Nat) (ls : Array Slot), some v = some res → decode cX7_sightOf pc = .ok (.ireturn, 1) → W p l e rmX7_sightOf s m args below meth c s.heap [] 0 0 Q (F0 m pc ls [.int v])) : mX7_sightOf p1 p2 = some res → ∀ (ls : Array Slot), lv_has ls 5 [(0, .long p1), (2, .int p2)] → W p l e rmX7_sightOf s m args below meth c s.heap [] 0 0 Q (F0 m 0 ls []) := by
  intro h ls hl
  have C0 := C
  obtain ⟨hx, hb, hml, hown, hts, hr, hlk, hnm⟩ := C0
  rw [mX7_sightOf] at h
  refine lv_iconst (v := 0) hx hb dX7_sightOf_0 (by decide) ?_
  refine lv_istore_n (lv' := [(3, .int (0 : Int32)), (0, .long p1), (2, .int p2)]) hx hb dX7_sightOf_1 rfl hl (by decide) rfl (fun ls hl => ?_)
  refine lv_lload_n hx hb dX7_sightOf_2 rfl (lv_at hl 1 rfl) ?_
  obtain ⟨u1, hu1, h⟩ := md_b h
  refine kS C (ctX7_digits l  hu1) gX7_sightOf_X7_digits rfl kdX7_digits ⟨rfl, rfl⟩ ⟨by decide, by decide⟩ kT_blind (fun _ _ _ => trivial) rfl hl [] rfl (Nat.le_of_ble_eq_true rfl) dX7_sightOf_3 ⟨by decide, by decide⟩ ?_
  refine lv_iconst (v := 1) hx hb dX7_sightOf_6 (by decide) ?_
  refine lv_isub hx hb dX7_sightOf_7 ?_
  refine lv_topi (fun x4_2 ex4_2 => ?_)
  replace h := md_le ex4_2 h
  refine lv_istore (lv' := [(4, .int x4_2), (3, .int (0 : Int32)), (0, .long p1), (2, .int p2)]) hx hb dX7_sightOf_8 hl (by decide) rfl (fun ls hl => ?_)
  refine lX7_sightOf_10 C p1 p2 res hQ _ (fun y3_45 h ls hl => ?_) kN (0 : Int32) x4_2 h ls (lv_sub hl [2, 3, 1, 0] rfl)
  refine lv_iload_n hx hb dX7_sightOf_45 rfl (lv_at hl 0 rfl) ?_
  refine lv_iconst (v := -1) hx hb dX7_sightOf_46 (by decide) ?_
  refine lv_icmp_ne (tgt := 54) hx hb dX7_sightOf_47 (by decide) (fun c10 => ?_) (fun c10 => ?_)
  · replace h := md_f c10 h
    refine lv_bipush (v := -6) hx hb dX7_sightOf_54 (by decide) ?_
    exact hQ (-6 : Int32) 56 ls h dX7_sightOf_56
  replace h := md_t c10 h
  refine lv_iload_n hx hb dX7_sightOf_50 rfl (lv_at hl 1 rfl) ?_
  refine lv_goto (tgt := 56) hx hb dX7_sightOf_51 (by decide) ?_
  exact hQ y3_45 56 ls h dX7_sightOf_56
set_option maxHeartbeats 4000000 in
theorem ctX7_sightOf (l : Launch) {p1 : Int64} {p2 : Int32} {res : Int32} (hm : mX7_sightOf p1 p2 = some res) : Met l yX7_sightOf wsX7_sightOf rmX7_sightOf (va_Pc [.long p1, .int p2] (fun _ => True)) (kR (.int res)) 0 0 (fun _ => False) :=
  km (by decide) rfl (Nat.le_of_ble_eq_true rfl) (fun p e s m below meth c ls C hB hl => bX7_sightOf C p1 p2 res (fun v pc ls h hd => kr_i C h hd) hm ls hl)
theorem kdvX7_sight : yX7_sight.cls = RX7 ∧ yX7_sight.cls ≠ "java/lang/invoke/MethodHandle" ∧ yX7_sight.cls ≠ "java/lang/invoke/VarHandle" ∧ (parseMethodDescriptor yX7_sight.desc).map (fun d => d.parameters.length) = some 2 := by decide +kernel
abbrev rmX7_sight : Room := { frames := 3, cells := 0, slots := 0, locals := 69 }
def mX7_sight (p1 : Int64) (p2 : Int32) : Option Int32 := (Option.bind (mX7_isGiven p1) (fun u1 => (if u1 = 0 then (some (-2 : Int32)) else (Option.bind (mX7_sightOf p1 p2) (fun u3 => (some u3))))))
set_option maxHeartbeats 4000000 in
set_option maxRecDepth 100000 in
theorem bX7_sight {p : Program} {l : Launch} {e : Env} {s : State} {m : MethodId} {args : Array Value} {below : List Frame} {meth : Method} {c : Code} {Q : State → Prop} (C : kc p s m args meth c cX7_sight 4 RX7 yX7_sight.name wsX7_sight (some .int)) {mo : Nat} (p1 : Int64) (p2 : Int32) (res : Int32) (hQ : ∀ (v : Int32) (pc : Nat) (ls : Array Slot), some v = some res → decode cX7_sight pc = .ok (.ireturn, 1) → W p l e rmX7_sight s m args below meth c s.heap [] 0 0 Q (F0 m pc ls [.int v])) : mX7_sight p1 p2 = some res → ∀ (ls : Array Slot), lv_has ls 4 [(0, .ref mo), (1, .long p1), (3, .int p2)] → W p l e rmX7_sight s m args below meth c s.heap [] 0 0 Q (F0 m 0 ls []) := by
  intro h ls hl
  have C0 := C
  obtain ⟨hx, hb, hml, hown, hts, hr, hlk, hnm⟩ := C0
  rw [mX7_sight] at h
  refine lv_lload_n hx hb dX7_sight_0 rfl (lv_at hl 1 rfl) ?_
  obtain ⟨u1, hu1, h⟩ := md_b h
  refine kS C (ctX7_isGiven l  hu1) gX7_sight_X7_isGiven rfl kdX7_isGiven ⟨rfl, rfl⟩ ⟨by decide, by decide⟩ kT_blind (fun _ _ _ => trivial) rfl hl [] rfl (Nat.le_of_ble_eq_true rfl) dX7_sight_1 ⟨by decide, by decide⟩ ?_
  refine lv_if_eq (tgt := 15) hx hb dX7_sight_4 (by decide) (fun c2 => ?_) (fun c2 => ?_)
  · replace h := md_t c2 h
    refine lv_bipush (v := -2) hx hb dX7_sight_15 (by decide) ?_
    exact hQ (-2 : Int32) 17 ls h dX7_sight_17
  replace h := md_f c2 h
  refine lv_lload_n hx hb dX7_sight_7 rfl (lv_at hl 1 rfl) ?_
  refine lv_iload_n hx hb dX7_sight_8 rfl (lv_at hl 2 rfl) ?_
  obtain ⟨u3, hu3, h⟩ := md_b h
  refine kS C (ctX7_sightOf l  hu3) gX7_sight_X7_sightOf rfl kdX7_sightOf ⟨rfl, rfl⟩ ⟨by decide, by decide⟩ kT_blind (fun _ _ _ => trivial) rfl hl [] rfl (Nat.le_of_ble_eq_true rfl) dX7_sight_9 ⟨by decide, by decide⟩ ?_
  refine lv_goto (tgt := 17) hx hb dX7_sight_12 (by decide) ?_
  exact hQ u3 17 ls h dX7_sight_17
set_option maxHeartbeats 4000000 in
theorem ctX7_sight (l : Launch) {mo : Nat} {p1 : Int64} {p2 : Int32} {res : Int32} (hm : mX7_sight p1 p2 = some res) : Met l yX7_sight wsX7_sight rmX7_sight (va_Pc [.ref mo, .long p1, .int p2] (fun _ => True)) (kR (.int res)) 0 0 (fun _ => False) :=
  km (by decide) rfl (Nat.le_of_ble_eq_true rfl) (fun p e s m below meth c ls C hB hl => bX7_sight C p1 p2 res (fun v pc ls h hd => kr_i C h hd) hm ls hl)
theorem wm_X7_likeBy_0 : Cond.constantLong RX7 70 (-1) ∈ wsX7_likeBy := by decide +kernel
theorem kdX7_likeBy : yX7_likeBy.cls ≠ "java/lang/invoke/MethodHandle" ∧ yX7_likeBy.cls ≠ "java/lang/invoke/VarHandle" ∧ (parseMethodDescriptor yX7_likeBy.desc).map (fun d => d.parameters.length) = some 2 := by decide +kernel
abbrev rmX7_likeBy : Room := { frames := 3, cells := 0, slots := 0, locals := 69 }
def mlX7_likeBy_15 (x0 : Int64) (x2 : Int32) (kE : Int64 → Int32 → Option Int64) : Nat → Int64 → Int32 → Int32 → Option Int64
  | 0, _, _, _ => none
  | n + 1, x4, x6, x7 => (if (8 : Int32) ≤ x7 then (kE x4 x6) else (md_jn (fun (x4_62 : Int64) (x6_62 : Int32) => (md_let (x7 + (1 : Int32)) (fun (x7_3 : Int32) => (mlX7_likeBy_15 x0 x2 kE n x4_62 x6_62 x7_3)))) (fun kJ62 => (if ((x2 >>> (x7 &&& 31)) &&& (1 : Int32)) = (1 : Int32) then (md_let (x6 + (-1 : Int32)) (fun (x6_5 : Int32) => (md_jn (fun (z1_59 : Int64) => (md_let (x4 + z1_59) (fun (x4_6 : Int64) => (kJ62 x4_6 x6_5)))) (fun kJ59 => (if 0 ≤ x6_5 then (Option.bind (mX7_sightOf x0 x6_5) (fun u8 => (Option.bind (mX7_power x7) (fun u9 => (kJ59 ((Int32.toInt64 u8) * u9)))))) else (kJ59 (0 : Int64))))))) else (kJ62 x4 x6)))))
set_option maxHeartbeats 4000000 in
set_option maxRecDepth 100000 in
theorem lX7_likeBy_15 {p : Program} {l : Launch} {e : Env} {s : State} {m : MethodId} {args : Array Value} {below : List Frame} {meth : Method} {c : Code} {Q : State → Prop} (C : kc p s m args meth c cX7_likeBy 8 RX7 yX7_likeBy.name wsX7_likeBy (some .long)) (x0 : Int64) (x2 : Int32) (res : Int64) (hQ : ∀ (v : Int64) (pc : Nat) (ls : Array Slot), some v = some res → decode cX7_likeBy pc = .ok (.lreturn, 1) → W p l e rmX7_likeBy s m args below meth c s.heap [] 0 0 Q (F0 m pc ls [.long v])) (kE : Int64 → Int32 → Option Int64) (hE : ∀ (y4 : Int64) (y6 : Int32), kE y4 y6 = some res → ∀ (ls : Array Slot), lv_has ls 8 [(2, .int x2), (4, .long y4), (6, .int y6)] → W p l e rmX7_likeBy s m args below meth c s.heap [] 0 0 Q (F0 m 68 ls [])) : ∀ (n : Nat), ∀ (x4 : Int64) (x6 : Int32) (x7 : Int32), mlX7_likeBy_15 x0 x2 kE n x4 x6 x7 = some res → ∀ (ls : Array Slot), lv_has ls 8 [(0, .long x0), (2, .int x2), (4, .long x4), (6, .int x6), (7, .int x7)] → W p l e rmX7_likeBy s m args below meth c s.heap [] 0 0 Q (F0 m 15 ls []) := by
  have C0 := C
  obtain ⟨hx, hb, hml, hown, hts, hr, hlk, hnm⟩ := C0
  intro n
  induction n with
  | zero => intro _ _ _ h; exact md_x h
  | succ n ih =>
    intro x4 x6 x7 h ls hl
    rw [mlX7_likeBy_15] at h
    refine lv_iload hx hb dX7_likeBy_15 (lv_at hl 4 rfl) ?_
    refine lv_bipush (v := 8) hx hb dX7_likeBy_17 (by decide) ?_
    refine lv_icmp_ge (tgt := 68) hx hb dX7_likeBy_19 (by decide) (fun c2 => ?_) (fun c2 => ?_)
    · replace h := md_t c2 h
      exact hE x4 x6 h ls (lv_sub hl [1, 2, 3] rfl)
    replace h := md_f c2 h
    refine lv_iload_n hx hb dX7_likeBy_22 rfl (lv_at hl 1 rfl) ?_
    refine lv_iload hx hb dX7_likeBy_23 (lv_at hl 4 rfl) ?_
    refine lv_ishr hx hb dX7_likeBy_25 ?_
    refine lv_iconst (v := 1) hx hb dX7_likeBy_26 (by decide) ?_
    refine lv_iand hx hb dX7_likeBy_27 ?_
    refine lv_iconst (v := 1) hx hb dX7_likeBy_28 (by decide) ?_
    obtain ⟨kJ62, ekJ62, h⟩ := md_jo h
    have KJ62 : ∀ (x4_62 : Int64) (x6_62 : Int32), kJ62 x4_62 x6_62 = some res → ∀ (ls : Array Slot), lv_has ls 8 [(0, .long x0), (2, .int x2), (4, .long x4_62), (6, .int x6_62), (7, .int x7)] → W p l e rmX7_likeBy s m args below meth c s.heap [] 0 0 Q (F0 m 62 ls []) := by
      intro x4_62 x6_62 h ls hl
      rw [ekJ62] at h
      obtain ⟨x7_3, ex7_3⟩ : ∃ y : Int32, y = (x7 + (1 : Int32)) := ⟨_, rfl⟩
      replace h := md_le ex7_3 h
      refine lv_iinc (v := x7_3) (lv' := [(7, .int x7_3), (0, .long x0), (2, .int x2), (4, .long x4_62), (6, .int x6_62)]) hx hb dX7_likeBy_62 hl (k := 4) rfl (by rw [ex7_3]; rfl) (by decide) rfl (fun ls hl => ?_)
      refine lv_goto (tgt := 15) hx hb dX7_likeBy_65 (by decide) ?_
      exact ih x4_62 x6_62 x7_3 h ls (lv_sub hl [1, 2, 3, 4, 0] rfl)
    clear ekJ62
    refine lv_icmp_ne (tgt := 62) hx hb dX7_likeBy_29 (by decide) (fun c4 => ?_) (fun c4 => ?_)
    · replace h := md_f c4 h
      exact KJ62 x4 x6 h ls (lv_sub hl [0, 1, 2, 3, 4] rfl)
    replace h := md_t c4 h
    obtain ⟨x6_5, ex6_5⟩ : ∃ y : Int32, y = (x6 + (-1 : Int32)) := ⟨_, rfl⟩
    replace h := md_le ex6_5 h
    refine lv_iinc (v := x6_5) (lv' := [(6, .int x6_5), (0, .long x0), (2, .int x2), (4, .long x4), (7, .int x7)]) hx hb dX7_likeBy_32 hl (k := 3) rfl (by rw [ex6_5]; rfl) (by decide) rfl (fun ls hl => ?_)
    refine lv_lload hx hb dX7_likeBy_35 (lv_at hl 3 rfl) ?_
    refine lv_iload hx hb dX7_likeBy_37 (lv_at hl 0 rfl) ?_
    obtain ⟨kJ59, ekJ59, h⟩ := md_jo h
    have KJ59 : ∀ (z1_59 : Int64), kJ59 z1_59 = some res → ∀ (ls : Array Slot), lv_has ls 8 [(0, .long x0), (2, .int x2), (6, .int x6_5), (7, .int x7)] → W p l e rmX7_likeBy s m args below meth c s.heap [] 0 0 Q (F0 m 59 ls [.long z1_59, .long x4]) := by
      intro z1_59 h ls hl
      rw [ekJ59] at h
      refine lv_ladd hx hb dX7_likeBy_59 ?_
      refine lv_topl (fun x4_6 ex4_6 => ?_)
      replace h := md_le ex4_6 h
      refine lv_lstore (lv' := [(4, .long x4_6), (0, .long x0), (2, .int x2), (6, .int x6_5), (7, .int x7)]) hx hb dX7_likeBy_60 hl (by decide) rfl (fun ls hl => ?_)
      exact KJ62 x4_6 x6_5 h ls (lv_sub hl [1, 2, 0, 3, 4] rfl)
    clear ekJ59
    refine lv_if_ge (tgt := 46) hx hb dX7_likeBy_39 (by decide) (fun c7 => ?_) (fun c7 => ?_)
    · replace h := md_t c7 h
      refine lv_lload_n hx hb dX7_likeBy_46 rfl (lv_at hl 1 rfl) ?_
      refine lv_iload hx hb dX7_likeBy_47 (lv_at hl 0 rfl) ?_
      obtain ⟨u8, hu8, h⟩ := md_b h
      refine kS C (ctX7_sightOf l  hu8) gX7_likeBy_X7_sightOf rfl kdX7_sightOf ⟨rfl, rfl⟩ ⟨by decide, by decide⟩ kT_blind (fun _ _ _ => trivial) rfl hl [.long x4] rfl (Nat.le_of_ble_eq_true rfl) dX7_likeBy_49 ⟨by decide, by decide⟩ ?_
      refine lv_i2l hx hb dX7_likeBy_52 rfl ?_
      refine lv_iload hx hb dX7_likeBy_53 (lv_at hl 4 rfl) ?_
      obtain ⟨u9, hu9, h⟩ := md_b h
      refine kS C (ctX7_power l  hu9) gX7_likeBy_X7_power rfl kdX7_power ⟨rfl, rfl⟩ ⟨by decide, by decide⟩ kT_blind (fun _ _ _ => trivial) rfl hl [.long (Int32.toInt64 u8), .long x4] rfl (Nat.le_of_ble_eq_true rfl) dX7_likeBy_55 ⟨by decide, by decide⟩ ?_
      refine lv_lmul hx hb dX7_likeBy_58 ?_
      exact KJ59 ((Int32.toInt64 u8) * u9) h ls (lv_sub hl [1, 2, 0, 4] rfl)
    replace h := md_f c7 h
    refine lv_lconst (v := 0) hx hb dX7_likeBy_42 (by decide) ?_
    refine lv_goto (tgt := 59) hx hb dX7_likeBy_43 (by decide) ?_
    exact KJ59 (0 : Int64) h ls (lv_sub hl [1, 2, 0, 4] rfl)
def mX7_likeBy (p1 : Int64) (p2 : Int32) : Option Int64 := (Option.bind (mX7_sightOf p1 (-1 : Int32)) (fun u1 => (mlX7_likeBy_15 p1 p2 (fun (y4_68 : Int64) (y6_68 : Int32) => (if y6_68 = 0 then (if (p2 &&& (1 : Int32)) = (1 : Int32) then (some y4_68) else (some (-1 : Int64))) else (some (-1 : Int64)))) kN (0 : Int64) u1 (0 : Int32))))
set_option maxHeartbeats 4000000 in
set_option maxRecDepth 100000 in
theorem bX7_likeBy {p : Program} {l : Launch} {e : Env} {s : State} {m : MethodId} {args : Array Value} {below : List Frame} {meth : Method} {c : Code} {Q : State → Prop} (C : kc p s m args meth c cX7_likeBy 8 RX7 yX7_likeBy.name wsX7_likeBy (some .long)) (p1 : Int64) (p2 : Int32) (res : Int64) (hQ : ∀ (v : Int64) (pc : Nat) (ls : Array Slot), some v = some res → decode cX7_likeBy pc = .ok (.lreturn, 1) → W p l e rmX7_likeBy s m args below meth c s.heap [] 0 0 Q (F0 m pc ls [.long v])) : mX7_likeBy p1 p2 = some res → ∀ (ls : Array Slot), lv_has ls 8 [(0, .long p1), (2, .int p2)] → W p l e rmX7_likeBy s m args below meth c s.heap [] 0 0 Q (F0 m 0 ls []) := by
  intro h ls hl
  have C0 := C
  obtain ⟨hx, hb, hml, hown, hts, hr, hlk, hnm⟩ := C0
  rw [mX7_likeBy] at h
  refine lv_lload_n hx hb dX7_likeBy_0 rfl (lv_at hl 0 rfl) ?_
  refine lv_iconst (v := -1) hx hb dX7_likeBy_1 (by decide) ?_
  obtain ⟨u1, hu1, h⟩ := md_b h
  refine kS C (ctX7_sightOf l  hu1) gX7_likeBy_X7_sightOf rfl kdX7_sightOf ⟨rfl, rfl⟩ ⟨by decide, by decide⟩ kT_blind (fun _ _ _ => trivial) rfl hl [] rfl (Nat.le_of_ble_eq_true rfl) dX7_likeBy_2 ⟨by decide, by decide⟩ ?_
  refine lv_istore_n (lv' := [(3, .int u1), (0, .long p1), (2, .int p2)]) hx hb dX7_likeBy_5 rfl hl (by decide) rfl (fun ls hl => ?_)
  refine lv_lconst (v := 0) hx hb dX7_likeBy_6 (by decide) ?_
  refine lv_lstore (lv' := [(4, .long (0 : Int64)), (3, .int u1), (0, .long p1), (2, .int p2)]) hx hb dX7_likeBy_7 hl (by decide) rfl (fun ls hl => ?_)
  refine lv_iload_n hx hb dX7_likeBy_9 rfl (lv_at hl 1 rfl) ?_
  refine lv_istore (lv' := [(6, .int u1), (4, .long (0 : Int64)), (3, .int u1), (0, .long p1), (2, .int p2)]) hx hb dX7_likeBy_10 hl (by decide) rfl (fun ls hl => ?_)
  refine lv_iconst (v := 0) hx hb dX7_likeBy_12 (by decide) ?_
  refine lv_istore (lv' := [(7, .int (0 : Int32)), (6, .int u1), (4, .long (0 : Int64)), (3, .int u1), (0, .long p1), (2, .int p2)]) hx hb dX7_likeBy_13 hl (by decide) rfl (fun ls hl => ?_)
  refine lX7_likeBy_15 C p1 p2 res hQ _ (fun y4_68 y6_68 h ls hl => ?_) kN (0 : Int64) u1 (0 : Int32) h ls (lv_sub hl [4, 5, 2, 1, 0] rfl)
  refine lv_iload hx hb dX7_likeBy_68 (lv_at hl 2 rfl) ?_
  refine lv_if_ne (tgt := 85) hx hb dX7_likeBy_70 (by decide) (fun c10 => ?_) (fun c10 => ?_)
  · replace h := md_f c10 h
    refine lv_ldc2 hx hb hown (hts _ wm_X7_likeBy_0) dX7_likeBy_85 ?_
    exact hQ (-1 : Int64) 88 ls h dX7_likeBy_88
  replace h := md_t c10 h
  refine lv_iload_n hx hb dX7_likeBy_73 rfl (lv_at hl 0 rfl) ?_
  refine lv_iconst (v := 1) hx hb dX7_likeBy_74 (by decide) ?_
  refine lv_iand hx hb dX7_likeBy_75 ?_
  refine lv_iconst (v := 1) hx hb dX7_likeBy_76 (by decide) ?_
  refine lv_icmp_ne (tgt := 85) hx hb dX7_likeBy_77 (by decide) (fun c11 => ?_) (fun c11 => ?_)
  · replace h := md_f c11 h
    refine lv_ldc2 hx hb hown (hts _ wm_X7_likeBy_0) dX7_likeBy_85 ?_
    exact hQ (-1 : Int64) 88 ls h dX7_likeBy_88
  replace h := md_t c11 h
  refine lv_lload hx hb dX7_likeBy_80 (lv_at hl 1 rfl) ?_
  refine lv_goto (tgt := 88) hx hb dX7_likeBy_82 (by decide) ?_
  exact hQ y4_68 88 ls h dX7_likeBy_88
set_option maxHeartbeats 4000000 in
theorem ctX7_likeBy (l : Launch) {p1 : Int64} {p2 : Int32} {res : Int64} (hm : mX7_likeBy p1 p2 = some res) : Met l yX7_likeBy wsX7_likeBy rmX7_likeBy (va_Pc [.long p1, .int p2] (fun _ => True)) (kR (.long res)) 0 0 (fun _ => False) :=
  km (by decide) rfl (Nat.le_of_ble_eq_true rfl) (fun p e s m below meth c ls C hB hl => bX7_likeBy C p1 p2 res (fun v pc ls h hd => kr_l C h hd) hm ls hl)
theorem wm_X7_like_0 : Cond.constantLong RX7 57 (-1000000000000000002) ∈ wsX7_like := by decide +kernel
theorem wm_X7_like_1 : Cond.constantLong RX7 72 (8) ∈ wsX7_like := by decide +kernel
theorem wm_X7_like_2 : Cond.constantLong RX7 78 (-1000000000000000006) ∈ wsX7_like := by decide +kernel
theorem kdvX7_like : yX7_like.cls = RX7 ∧ yX7_like.cls ≠ "java/lang/invoke/MethodHandle" ∧ yX7_like.cls ≠ "java/lang/invoke/VarHandle" ∧ (parseMethodDescriptor yX7_like.desc).map (fun d => d.parameters.length) = some 3 := by decide +kernel
abbrev rmX7_like : Room := { frames := 4, cells := 0, slots := 0, locals := 96 }
def mlX7_like_29 (x1 : Int64) (x3 : Int32) (x4 : Int32) (kE : Int32 → Option Int64) : Nat → Int32 → Int32 → Option Int64
  | 0, _, _ => none
  | n + 1, x5, x6 => (if ((1 : Int32) <<< (x3 &&& 31)) ≤ x6 then (kE x5) else (Option.bind (mX7_likeBy x1 x6) (fun u6 => (md_jn (fun (x5_65 : Int32) => (md_let (x6 + (1 : Int32)) (fun (x6_7 : Int32) => (mlX7_like_29 x1 x3 x4 kE n x5_65 x6_7)))) (fun kJ65 => (if u6 ≤ (0 : Int64) then (kJ65 x5) else (if x5 = x4 then (some u6) else (md_let (x5 + (1 : Int32)) (fun (x5_10 : Int32) => (kJ65 x5_10))))))))))
set_option maxHeartbeats 4000000 in
set_option maxRecDepth 100000 in
theorem lX7_like_29 {p : Program} {l : Launch} {e : Env} {s : State} {m : MethodId} {args : Array Value} {below : List Frame} {meth : Method} {c : Code} {Q : State → Prop} (C : kc p s m args meth c cX7_like 9 RX7 yX7_like.name wsX7_like (some .long)) {mo : Nat} (x1 : Int64) (x3 : Int32) (x4 : Int32) (res : Int64) (hQ : ∀ (v : Int64) (pc : Nat) (ls : Array Slot), some v = some res → decode cX7_like pc = .ok (.lreturn, 1) → W p l e rmX7_like s m args below meth c s.heap [] 0 0 Q (F0 m pc ls [.long v])) (kE : Int32 → Option Int64) (hE : ∀ (y5 : Int32), kE y5 = some res → ∀ (ls : Array Slot), lv_has ls 9 [(4, .int x4), (5, .int y5)] → W p l e rmX7_like s m args below meth c s.heap [] 0 0 Q (F0 m 71 ls [])) : ∀ (n : Nat), ∀ (x5 : Int32) (x6 : Int32), mlX7_like_29 x1 x3 x4 kE n x5 x6 = some res → ∀ (ls : Array Slot), lv_has ls 9 [(1, .long x1), (3, .int x3), (4, .int x4), (5, .int x5), (6, .int x6)] → W p l e rmX7_like s m args below meth c s.heap [] 0 0 Q (F0 m 29 ls []) := by
  have C0 := C
  obtain ⟨hx, hb, hml, hown, hts, hr, hlk, hnm⟩ := C0
  intro n
  induction n with
  | zero => intro _ _ h; exact md_x h
  | succ n ih =>
    intro x5 x6 h ls hl
    rw [mlX7_like_29] at h
    refine lv_iload hx hb dX7_like_29 (lv_at hl 4 rfl) ?_
    refine lv_iconst (v := 1) hx hb dX7_like_31 (by decide) ?_
    refine lv_iload_n hx hb dX7_like_32 rfl (lv_at hl 1 rfl) ?_
    refine lv_ishl hx hb dX7_like_33 ?_
    refine lv_icmp_ge (tgt := 71) hx hb dX7_like_34 (by decide) (fun c5 => ?_) (fun c5 => ?_)
    · replace h := md_t c5 h
      exact hE x5 h ls (lv_sub hl [2, 3] rfl)
    replace h := md_f c5 h
    refine lv_lload_n hx hb dX7_like_37 rfl (lv_at hl 0 rfl) ?_
    refine lv_iload hx hb dX7_like_38 (lv_at hl 4 rfl) ?_
    obtain ⟨u6, hu6, h⟩ := md_b h
    refine kS C (ctX7_likeBy l  hu6) gX7_like_X7_likeBy rfl kdX7_likeBy ⟨rfl, rfl⟩ ⟨by decide, by decide⟩ kT_blind (fun _ _ _ => trivial) rfl hl [] rfl (Nat.le_of_ble_eq_true rfl) dX7_like_40 ⟨by decide, by decide⟩ ?_
    refine lv_lstore (lv' := [(7, .long u6), (1, .long x1), (3, .int x3), (4, .int x4), (5, .int x5), (6, .int x6)]) hx hb dX7_like_43 hl (by decide) rfl (fun ls hl => ?_)
    refine lv_lload hx hb dX7_like_45 (lv_at hl 0 rfl) ?_
    refine lv_lconst (v := 0) hx hb dX7_like_47 (by decide) ?_
    refine W.lcmp hx hb dX7_like_48 ?_
    obtain ⟨kJ65, ekJ65, h⟩ := md_jo h
    have KJ65 : ∀ (x5_65 : Int32), kJ65 x5_65 = some res → ∀ (ls : Array Slot), lv_has ls 9 [(1, .long x1), (3, .int x3), (4, .int x4), (5, .int x5_65), (6, .int x6)] → W p l e rmX7_like s m args below meth c s.heap [] 0 0 Q (F0 m 65 ls []) := by
      intro x5_65 h ls hl
      rw [ekJ65] at h
      obtain ⟨x6_7, ex6_7⟩ : ∃ y : Int32, y = (x6 + (1 : Int32)) := ⟨_, rfl⟩
      replace h := md_le ex6_7 h
      refine lv_iinc (v := x6_7) (lv' := [(6, .int x6_7), (1, .long x1), (3, .int x3), (4, .int x4), (5, .int x5_65)]) hx hb dX7_like_65 hl (k := 4) rfl (by rw [ex6_7]; rfl) (by decide) rfl (fun ls hl => ?_)
      refine lv_goto (tgt := 29) hx hb dX7_like_68 (by decide) ?_
      exact ih x5_65 x6_7 h ls (lv_sub hl [1, 2, 3, 4, 0] rfl)
    clear ekJ65
    refine lv_if_le (tgt := 65) hx hb dX7_like_49 (by decide) (fun c8 => ?_) (fun c8 => ?_)
    · replace c8 := (lg_cmp_le _ _).mp c8
      replace h := md_t c8 h
      exact KJ65 x5 h ls (lv_sub hl [1, 2, 3, 4, 5] rfl)
    replace c8 := fun q9 => c8 ((lg_cmp_le _ _).mpr q9)
    replace h := md_f c8 h
    refine lv_iload hx hb dX7_like_52 (lv_at hl 4 rfl) ?_
    refine lv_iload hx hb dX7_like_54 (lv_at hl 3 rfl) ?_
    refine lv_icmp_ne (tgt := 62) hx hb dX7_like_56 (by decide) (fun c9 => ?_) (fun c9 => ?_)
    · replace h := md_f c9 h
      obtain ⟨x5_10, ex5_10⟩ : ∃ y : Int32, y = (x5 + (1 : Int32)) := ⟨_, rfl⟩
      replace h := md_le ex5_10 h
      refine lv_iinc (v := x5_10) (lv' := [(5, .int x5_10), (7, .long u6), (1, .long x1), (3, .int x3), (4, .int x4), (6, .int x6)]) hx hb dX7_like_62 hl (k := 4) rfl (by rw [ex5_10]; rfl) (by decide) rfl (fun ls hl => ?_)
      exact KJ65 x5_10 h ls (lv_sub hl [2, 3, 4, 0, 5] rfl)
    replace h := md_t c9 h
    refine lv_lload hx hb dX7_like_59 (lv_at hl 0 rfl) ?_
    exact hQ u6 61 ls h dX7_like_61
def mX7_like (p1 : Int64) (p2 : Int32) (p3 : Int32) : Option Int64 := (Option.bind (mX7_isGiven p1) (fun u1 => (if u1 = 0 then (some (-1000000000000000002 : Int64)) else (Option.bind (mX7_in (Int32.toInt64 p2) (1 : Int64) (8 : Int64)) (fun u3 => (if u3 = 0 then (some (-1000000000000000002 : Int64)) else (mlX7_like_29 p1 p2 p3 (fun (y5_71 : Int32) => (if p3 = (-1 : Int32) then (some (Int32.toInt64 y5_71)) else (some (-1000000000000000006 : Int64)))) kN (0 : Int32) (1 : Int32))))))))
set_option maxHeartbeats 4000000 in
set_option maxRecDepth 100000 in
theorem bX7_like {p : Program} {l : Launch} {e : Env} {s : State} {m : MethodId} {args : Array Value} {below : List Frame} {meth : Method} {c : Code} {Q : State → Prop} (C : kc p s m args meth c cX7_like 9 RX7 yX7_like.name wsX7_like (some .long)) {mo : Nat} (p1 : Int64) (p2 : Int32) (p3 : Int32) (res : Int64) (hQ : ∀ (v : Int64) (pc : Nat) (ls : Array Slot), some v = some res → decode cX7_like pc = .ok (.lreturn, 1) → W p l e rmX7_like s m args below meth c s.heap [] 0 0 Q (F0 m pc ls [.long v])) : mX7_like p1 p2 p3 = some res → ∀ (ls : Array Slot), lv_has ls 9 [(0, .ref mo), (1, .long p1), (3, .int p2), (4, .int p3)] → W p l e rmX7_like s m args below meth c s.heap [] 0 0 Q (F0 m 0 ls []) := by
  intro h ls hl
  have C0 := C
  obtain ⟨hx, hb, hml, hown, hts, hr, hlk, hnm⟩ := C0
  rw [mX7_like] at h
  refine lv_lload_n hx hb dX7_like_0 rfl (lv_at hl 1 rfl) ?_
  obtain ⟨u1, hu1, h⟩ := md_b h
  refine kS C (ctX7_isGiven l  hu1) gX7_like_X7_isGiven rfl kdX7_isGiven ⟨rfl, rfl⟩ ⟨by decide, by decide⟩ kT_blind (fun _ _ _ => trivial) rfl hl [] rfl (Nat.le_of_ble_eq_true rfl) dX7_like_1 ⟨by decide, by decide⟩ ?_
  refine lv_if_eq (tgt := 19) hx hb dX7_like_4 (by decide) (fun c2 => ?_) (fun c2 => ?_)
  · replace h := md_t c2 h
    refine lv_ldc2 hx hb hown (hts _ wm_X7_like_0) dX7_like_19 ?_
    exact hQ (-1000000000000000002 : Int64) 22 ls h dX7_like_22
  replace h := md_f c2 h
  refine lv_iload_n hx hb dX7_like_7 rfl (lv_at hl 2 rfl) ?_
  refine lv_i2l hx hb dX7_like_8 rfl ?_
  refine lv_lconst (v := 1) hx hb dX7_like_9 (by decide) ?_
  refine lv_ldc2 hx hb hown (hts _ wm_X7_like_1) dX7_like_10 ?_
  obtain ⟨u3, hu3, h⟩ := md_b h
  refine kS C (ctX7_in l  hu3) gX7_like_X7_in rfl kdX7_in ⟨rfl, rfl⟩ ⟨by decide, by decide⟩ kT_blind (fun _ _ _ => trivial) rfl hl [] rfl (Nat.le_of_ble_eq_true rfl) dX7_like_13 ⟨by decide, by decide⟩ ?_
  refine lv_if_ne (tgt := 23) hx hb dX7_like_16 (by decide) (fun c4 => ?_) (fun c4 => ?_)
  · replace h := md_f c4 h
    refine lv_iconst (v := 0) hx hb dX7_like_23 (by decide) ?_
    refine lv_istore (lv' := [(5, .int (0 : Int32)), (0, .ref mo), (1, .long p1), (3, .int p2), (4, .int p3)]) hx hb dX7_like_24 hl (by decide) rfl (fun ls hl => ?_)
    refine lv_iconst (v := 1) hx hb dX7_like_26 (by decide) ?_
    refine lv_istore (lv' := [(6, .int (1 : Int32)), (5, .int (0 : Int32)), (0, .ref mo), (1, .long p1), (3, .int p2), (4, .int p3)]) hx hb dX7_like_27 hl (by decide) rfl (fun ls hl => ?_)
    refine lX7_like_29 (mo := mo) C p1 p2 p3 res hQ _ (fun y5_71 h ls hl => ?_) kN (0 : Int32) (1 : Int32) h ls (lv_sub hl [3, 4, 5, 1, 0] rfl)
    refine lv_iload hx hb dX7_like_71 (lv_at hl 0 rfl) ?_
    refine lv_iconst (v := -1) hx hb dX7_like_73 (by decide) ?_
    refine lv_icmp_ne (tgt := 83) hx hb dX7_like_74 (by decide) (fun c11 => ?_) (fun c11 => ?_)
    · replace h := md_f c11 h
      refine lv_ldc2 hx hb hown (hts _ wm_X7_like_2) dX7_like_83 ?_
      exact hQ (-1000000000000000006 : Int64) 86 ls h dX7_like_86
    replace h := md_t c11 h
    refine lv_iload hx hb dX7_like_77 (lv_at hl 1 rfl) ?_
    refine lv_i2l hx hb dX7_like_79 rfl ?_
    refine lv_goto (tgt := 86) hx hb dX7_like_80 (by decide) ?_
    exact hQ (Int32.toInt64 y5_71) 86 ls h dX7_like_86
  replace h := md_t c4 h
  refine lv_ldc2 hx hb hown (hts _ wm_X7_like_0) dX7_like_19 ?_
  exact hQ (-1000000000000000002 : Int64) 22 ls h dX7_like_22
set_option maxHeartbeats 4000000 in
theorem ctX7_like (l : Launch) {mo : Nat} {p1 : Int64} {p2 : Int32} {p3 : Int32} {res : Int64} (hm : mX7_like p1 p2 p3 = some res) : Met l yX7_like wsX7_like rmX7_like (va_Pc [.ref mo, .long p1, .int p2, .int p3] (fun _ => True)) (kR (.long res)) 0 0 (fun _ => False) :=
  km (by decide) rfl (Nat.le_of_ble_eq_true rfl) (fun p e s m below meth c ls C hB hl => bX7_like C p1 p2 p3 res (fun v pc ls h hd => kr_l C h hd) hm ls hl)
theorem wm_X7_put_0 : Cond.constantLong RX7 57 (-1000000000000000002) ∈ wsX7_put := by decide +kernel
theorem wm_X7_put_1 : Cond.constantLong RX7 80 (-7) ∈ wsX7_put := by decide +kernel
theorem wm_X7_put_2 : Cond.constantLong RX7 82 (7) ∈ wsX7_put := by decide +kernel
theorem wm_X7_put_3 : Cond.constantLong RX7 84 (167961600000000) ∈ wsX7_put := by decide +kernel
theorem wm_X7_put_4 : Cond.constantLong RX7 86 (-1000000000000000004) ∈ wsX7_put := by decide +kernel
theorem kdvX7_put : yX7_put.cls = RX7 ∧ yX7_put.cls ≠ "java/lang/invoke/MethodHandle" ∧ yX7_put.cls ≠ "java/lang/invoke/VarHandle" ∧ (parseMethodDescriptor yX7_put.desc).map (fun d => d.parameters.length) = some 3 := by decide +kernel
abbrev rmX7_put : Room := { frames := 2, cells := 0, slots := 0, locals := 46 }
def mX7_put (p1 : Int64) (p2 : Int64) (p3 : Int32) : Option Int64 := (Option.bind (mX7_isGiven p1) (fun u1 => (if u1 = 0 then (some (-1000000000000000002 : Int64)) else (Option.bind (mX7_isGiven p2) (fun u3 => (if u3 = 0 then (some (-1000000000000000002 : Int64)) else (Option.bind (mX7_in (Int32.toInt64 p3) (-7 : Int64) (7 : Int64)) (fun u5 => (if u5 = 0 then (some (-1000000000000000002 : Int64)) else (md_jn (fun (z0_43 : Int64) => (md_jn (fun (z0_55 : Int64) => (md_jn (fun (z0_70 : Int32) => (Option.bind (mX7_power z0_70) (fun u7 => (if u7 = 0 then none else (if ((167961600000000 : Int64) / u7) < z0_43 then (some (-1000000000000000004 : Int64)) else (if ((z0_43 * u7) + z0_55) < (167961600000000 : Int64) then (Option.bind (mX7_sixtyOf ((z0_43 * u7) + z0_55)) (fun u11 => (some u11))) else (some (-1000000000000000004 : Int64)))))))) (fun kJ70 => (if p3 < 0 then (kJ70 (-p3)) else (kJ70 p3))))) (fun kJ55 => (if p3 < 0 then (kJ55 p2) else (kJ55 p1))))) (fun kJ43 => (if p3 < 0 then (kJ43 p1) else (kJ43 p2)))))))))))))
set_option maxHeartbeats 4000000 in
set_option maxRecDepth 100000 in
theorem bX7_put {p : Program} {l : Launch} {e : Env} {s : State} {m : MethodId} {args : Array Value} {below : List Frame} {meth : Method} {c : Code} {Q : State → Prop} (C : kc p s m args meth c cX7_put 12 RX7 yX7_put.name wsX7_put (some .long)) {mo : Nat} (p1 : Int64) (p2 : Int64) (p3 : Int32) (res : Int64) (hQ : ∀ (v : Int64) (pc : Nat) (ls : Array Slot), some v = some res → decode cX7_put pc = .ok (.lreturn, 1) → W p l e rmX7_put s m args below meth c s.heap [] 0 0 Q (F0 m pc ls [.long v])) : mX7_put p1 p2 p3 = some res → ∀ (ls : Array Slot), lv_has ls 12 [(0, .ref mo), (1, .long p1), (3, .long p2), (5, .int p3)] → W p l e rmX7_put s m args below meth c s.heap [] 0 0 Q (F0 m 0 ls []) := by
  intro h ls hl
  have C0 := C
  obtain ⟨hx, hb, hml, hown, hts, hr, hlk, hnm⟩ := C0
  rw [mX7_put] at h
  refine lv_lload_n hx hb dX7_put_0 rfl (lv_at hl 1 rfl) ?_
  obtain ⟨u1, hu1, h⟩ := md_b h
  refine kS C (ctX7_isGiven l  hu1) gX7_put_X7_isGiven rfl kdX7_isGiven ⟨rfl, rfl⟩ ⟨by decide, by decide⟩ kT_blind (fun _ _ _ => trivial) rfl hl [] rfl (Nat.le_of_ble_eq_true rfl) dX7_put_1 ⟨by decide, by decide⟩ ?_
  refine lv_if_eq (tgt := 29) hx hb dX7_put_4 (by decide) (fun c2 => ?_) (fun c2 => ?_)
  · replace h := md_t c2 h
    refine lv_ldc2 hx hb hown (hts _ wm_X7_put_0) dX7_put_29 ?_
    exact hQ (-1000000000000000002 : Int64) 32 ls h dX7_put_32
  replace h := md_f c2 h
  refine lv_lload_n hx hb dX7_put_7 rfl (lv_at hl 2 rfl) ?_
  obtain ⟨u3, hu3, h⟩ := md_b h
  refine kS C (ctX7_isGiven l  hu3) gX7_put_X7_isGiven rfl kdX7_isGiven ⟨rfl, rfl⟩ ⟨by decide, by decide⟩ kT_blind (fun _ _ _ => trivial) rfl hl [] rfl (Nat.le_of_ble_eq_true rfl) dX7_put_8 ⟨by decide, by decide⟩ ?_
  refine lv_if_eq (tgt := 29) hx hb dX7_put_11 (by decide) (fun c4 => ?_) (fun c4 => ?_)
  · replace h := md_t c4 h
    refine lv_ldc2 hx hb hown (hts _ wm_X7_put_0) dX7_put_29 ?_
    exact hQ (-1000000000000000002 : Int64) 32 ls h dX7_put_32
  replace h := md_f c4 h
  refine lv_iload hx hb dX7_put_14 (lv_at hl 3 rfl) ?_
  refine lv_i2l hx hb dX7_put_16 rfl ?_
  refine lv_ldc2 hx hb hown (hts _ wm_X7_put_1) dX7_put_17 ?_
  refine lv_ldc2 hx hb hown (hts _ wm_X7_put_2) dX7_put_20 ?_
  obtain ⟨u5, hu5, h⟩ := md_b h
  refine kS C (ctX7_in l  hu5) gX7_put_X7_in rfl kdX7_in ⟨rfl, rfl⟩ ⟨by decide, by decide⟩ kT_blind (fun _ _ _ => trivial) rfl hl [] rfl (Nat.le_of_ble_eq_true rfl) dX7_put_23 ⟨by decide, by decide⟩ ?_
  refine lv_if_ne (tgt := 33) hx hb dX7_put_26 (by decide) (fun c6 => ?_) (fun c6 => ?_)
  · replace h := md_f c6 h
    refine lv_iload hx hb dX7_put_33 (lv_at hl 3 rfl) ?_
    obtain ⟨kJ43, ekJ43, h⟩ := md_jo h
    have KJ43 : ∀ (z0_43 : Int64), kJ43 z0_43 = some res → ∀ (ls : Array Slot), lv_has ls 12 [(1, .long p1), (3, .long p2), (5, .int p3)] → W p l e rmX7_put s m args below meth c s.heap [] 0 0 Q (F0 m 43 ls [.long z0_43]) := by
      intro z0_43 h ls hl
      rw [ekJ43] at h
      refine lv_lstore (lv' := [(6, .long z0_43), (1, .long p1), (3, .long p2), (5, .int p3)]) hx hb dX7_put_43 hl (by decide) rfl (fun ls hl => ?_)
      refine lv_iload hx hb dX7_put_45 (lv_at hl 3 rfl) ?_
      obtain ⟨kJ55, ekJ55, h⟩ := md_jo h
      have KJ55 : ∀ (z0_55 : Int64), kJ55 z0_55 = some res → ∀ (ls : Array Slot), lv_has ls 12 [(5, .int p3), (6, .long z0_43)] → W p l e rmX7_put s m args below meth c s.heap [] 0 0 Q (F0 m 55 ls [.long z0_55]) := by
        intro z0_55 h ls hl
        rw [ekJ55] at h
        refine lv_lstore (lv' := [(8, .long z0_55), (5, .int p3), (6, .long z0_43)]) hx hb dX7_put_55 hl (by decide) rfl (fun ls hl => ?_)
        refine lv_iload hx hb dX7_put_57 (lv_at hl 1 rfl) ?_
        obtain ⟨kJ70, ekJ70, h⟩ := md_jo h
        have KJ70 : ∀ (z0_70 : Int32), kJ70 z0_70 = some res → ∀ (ls : Array Slot), lv_has ls 12 [(6, .long z0_43), (8, .long z0_55)] → W p l e rmX7_put s m args below meth c s.heap [] 0 0 Q (F0 m 70 ls [.int z0_70]) := by
          intro z0_70 h ls hl
          rw [ekJ70] at h
          obtain ⟨u7, hu7, h⟩ := md_b h
          refine kS C (ctX7_power l  hu7) gX7_put_X7_power rfl kdX7_power ⟨rfl, rfl⟩ ⟨by decide, by decide⟩ kT_blind (fun _ _ _ => trivial) rfl hl [] rfl (Nat.le_of_ble_eq_true rfl) dX7_put_70 ⟨by decide, by decide⟩ ?_
          refine lv_lstore (lv' := [(10, .long u7), (6, .long z0_43), (8, .long z0_55)]) hx hb dX7_put_73 hl (by decide) rfl (fun ls hl => ?_)
          refine lv_lload hx hb dX7_put_75 (lv_at hl 1 rfl) ?_
          refine lv_ldc2 hx hb hown (hts _ wm_X7_put_3) dX7_put_77 ?_
          refine lv_lload hx hb dX7_put_80 (lv_at hl 0 rfl) ?_
          obtain ⟨hz8, h⟩ := md_g h
          refine lv_ldiv hx hb dX7_put_82 hz8 ?_
          refine W.lcmp hx hb dX7_put_83 ?_
          refine lv_if_gt (tgt := 102) hx hb dX7_put_84 (by decide) (fun c9 => ?_) (fun c9 => ?_)
          · replace c9 := (lg_cmp_gt _ _).mp c9
            replace h := md_t c9 h
            refine lv_ldc2 hx hb hown (hts _ wm_X7_put_4) dX7_put_102 ?_
            exact hQ (-1000000000000000004 : Int64) 105 ls h dX7_put_105
          replace c9 := fun q9 => c9 ((lg_cmp_gt _ _).mpr q9)
          replace h := md_f c9 h
          refine lv_lload hx hb dX7_put_87 (lv_at hl 1 rfl) ?_
          refine lv_lload hx hb dX7_put_89 (lv_at hl 0 rfl) ?_
          refine lv_lmul hx hb dX7_put_91 ?_
          refine lv_lload hx hb dX7_put_92 (lv_at hl 2 rfl) ?_
          refine lv_ladd hx hb dX7_put_94 ?_
          refine lv_ldc2 hx hb hown (hts _ wm_X7_put_3) dX7_put_95 ?_
          refine W.lcmp hx hb dX7_put_98 ?_
          refine lv_if_lt (tgt := 106) hx hb dX7_put_99 (by decide) (fun c10 => ?_) (fun c10 => ?_)
          · replace c10 := (lg_cmp_lt _ _).mp c10
            replace h := md_t c10 h
            refine lv_lload hx hb dX7_put_106 (lv_at hl 1 rfl) ?_
            refine lv_lload hx hb dX7_put_108 (lv_at hl 0 rfl) ?_
            refine lv_lmul hx hb dX7_put_110 ?_
            refine lv_lload hx hb dX7_put_111 (lv_at hl 2 rfl) ?_
            refine lv_ladd hx hb dX7_put_113 ?_
            obtain ⟨u11, hu11, h⟩ := md_b h
            refine kS C (ctX7_sixtyOf l  hu11) gX7_put_X7_sixtyOf rfl kdX7_sixtyOf ⟨rfl, rfl⟩ ⟨by decide, by decide⟩ kT_blind (fun _ _ _ => trivial) rfl hl [] rfl (Nat.le_of_ble_eq_true rfl) dX7_put_114 ⟨by decide, by decide⟩ ?_
            exact hQ u11 117 ls h dX7_put_117
          replace c10 := fun q9 => c10 ((lg_cmp_lt _ _).mpr q9)
          replace h := md_f c10 h
          refine lv_ldc2 hx hb hown (hts _ wm_X7_put_4) dX7_put_102 ?_
          exact hQ (-1000000000000000004 : Int64) 105 ls h dX7_put_105
        clear ekJ70
        refine lv_if_lt (tgt := 67) hx hb dX7_put_59 (by decide) (fun c12 => ?_) (fun c12 => ?_)
        · replace h := md_t c12 h
          refine lv_iload hx hb dX7_put_67 (lv_at hl 1 rfl) ?_
          refine lv_ineg hx hb dX7_put_69 ?_
          exact KJ70 (-p3) h ls (lv_sub hl [2, 0] rfl)
        replace h := md_f c12 h
        refine lv_iload hx hb dX7_put_62 (lv_at hl 1 rfl) ?_
        refine lv_goto (tgt := 70) hx hb dX7_put_64 (by decide) ?_
        exact KJ70 p3 h ls (lv_sub hl [2, 0] rfl)
      clear ekJ55
      refine lv_if_lt (tgt := 54) hx hb dX7_put_47 (by decide) (fun c13 => ?_) (fun c13 => ?_)
      · replace h := md_t c13 h
        refine lv_lload_n hx hb dX7_put_54 rfl (lv_at hl 2 rfl) ?_
        exact KJ55 p2 h ls (lv_sub hl [3, 0] rfl)
      replace h := md_f c13 h
      refine lv_lload_n hx hb dX7_put_50 rfl (lv_at hl 1 rfl) ?_
      refine lv_goto (tgt := 55) hx hb dX7_put_51 (by decide) ?_
      exact KJ55 p1 h ls (lv_sub hl [3, 0] rfl)
    clear ekJ43
    refine lv_if_lt (tgt := 42) hx hb dX7_put_35 (by decide) (fun c14 => ?_) (fun c14 => ?_)
    · replace h := md_t c14 h
      refine lv_lload_n hx hb dX7_put_42 rfl (lv_at hl 1 rfl) ?_
      exact KJ43 p1 h ls (lv_sub hl [1, 2, 3] rfl)
    replace h := md_f c14 h
    refine lv_lload_n hx hb dX7_put_38 rfl (lv_at hl 2 rfl) ?_
    refine lv_goto (tgt := 43) hx hb dX7_put_39 (by decide) ?_
    exact KJ43 p2 h ls (lv_sub hl [1, 2, 3] rfl)
  replace h := md_t c6 h
  refine lv_ldc2 hx hb hown (hts _ wm_X7_put_0) dX7_put_29 ?_
  exact hQ (-1000000000000000002 : Int64) 32 ls h dX7_put_32
set_option maxHeartbeats 4000000 in
theorem ctX7_put (l : Launch) {mo : Nat} {p1 : Int64} {p2 : Int64} {p3 : Int32} {res : Int64} (hm : mX7_put p1 p2 p3 = some res) : Met l yX7_put wsX7_put rmX7_put (va_Pc [.ref mo, .long p1, .long p2, .int p3] (fun _ => True)) (kR (.long res)) 0 0 (fun _ => False) :=
  km (by decide) rfl (Nat.le_of_ble_eq_true rfl) (fun p e s m below meth c ls C hB hl => bX7_put C p1 p2 p3 res (fun v pc ls h hd => kr_l C h hd) hm ls hl)
theorem kdX7_times : yX7_times.cls ≠ "java/lang/invoke/MethodHandle" ∧ yX7_times.cls ≠ "java/lang/invoke/VarHandle" ∧ (parseMethodDescriptor yX7_times.desc).map (fun d => d.parameters.length) = some 2 := by decide +kernel
abbrev rmX7_times : Room := { frames := 0, cells := 0, slots := 0, locals := 0 }
def mlX7_times_5 (x2 : Int32) (kE : Int32 → Option Int32) : Nat → Int32 → Int64 → Option Int32
  | 0, _, _ => none
  | n + 1, x3, x4 => (if (Int32.toInt64 x2) = 0 then none else (if (x4 - x4 / (Int32.toInt64 x2) * (Int32.toInt64 x2)) = (0 : Int64) then (md_let (x3 + (1 : Int32)) (fun (x3_3 : Int32) => (if (Int32.toInt64 x2) = 0 then none else (md_let (x4 / (Int32.toInt64 x2)) (fun (x4_5 : Int64) => (mlX7_times_5 x2 kE n x3_3 x4_5)))))) else (kE x3)))
set_option maxHeartbeats 4000000 in
set_option maxRecDepth 100000 in
theorem lX7_times_5 {p : Program} {l : Launch} {e : Env} {s : State} {m : MethodId} {args : Array Value} {below : List Frame} {meth : Method} {c : Code} {Q : State → Prop} (C : kc p s m args meth c cX7_times 6 RX7 yX7_times.name wsX7_times (some .int)) (x2 : Int32) (res : Int32) (hQ : ∀ (v : Int32) (pc : Nat) (ls : Array Slot), some v = some res → decode cX7_times pc = .ok (.ireturn, 1) → W p l e rmX7_times s m args below meth c s.heap [] 0 0 Q (F0 m pc ls [.int v])) (kE : Int32 → Option Int32) (hE : ∀ (y3 : Int32), kE y3 = some res → ∀ (ls : Array Slot), lv_has ls 6 [(3, .int y3)] → W p l e rmX7_times s m args below meth c s.heap [] 0 0 Q (F0 m 28 ls [])) : ∀ (n : Nat), ∀ (x3 : Int32) (x4 : Int64), mlX7_times_5 x2 kE n x3 x4 = some res → ∀ (ls : Array Slot), lv_has ls 6 [(2, .int x2), (3, .int x3), (4, .long x4)] → W p l e rmX7_times s m args below meth c s.heap [] 0 0 Q (F0 m 5 ls []) := by
  have C0 := C
  obtain ⟨hx, hb, hml, hown, hts, hr, hlk, hnm⟩ := C0
  intro n
  induction n with
  | zero => intro _ _ h; exact md_x h
  | succ n ih =>
    intro x3 x4 h ls hl
    rw [mlX7_times_5] at h
    refine lv_lload hx hb dX7_times_5 (lv_at hl 2 rfl) ?_
    refine lv_iload_n hx hb dX7_times_7 rfl (lv_at hl 0 rfl) ?_
    refine lv_i2l hx hb dX7_times_8 rfl ?_
    obtain ⟨hz1, h⟩ := md_g h
    refine lv_lrem hx hb dX7_times_9 hz1 ?_
    refine lv_lconst (v := 0) hx hb dX7_times_10 (by decide) ?_
    refine W.lcmp hx hb dX7_times_11 ?_
    refine lv_if_ne (tgt := 28) hx hb dX7_times_12 (by decide) (fun c2 => ?_) (fun c2 => ?_)
    · replace c2 := fun q9 => c2 ((lg_cmp_eq _ _).mpr q9)
      replace h := md_f c2 h
      exact hE x3 h ls (lv_sub hl [1] rfl)
    replace c2 := (lg_cmp_eq _ _).mp c2
    replace h := md_t c2 h
    obtain ⟨x3_3, ex3_3⟩ : ∃ y : Int32, y = (x3 + (1 : Int32)) := ⟨_, rfl⟩
    replace h := md_le ex3_3 h
    refine lv_iinc (v := x3_3) (lv' := [(3, .int x3_3), (2, .int x2), (4, .long x4)]) hx hb dX7_times_15 hl (k := 1) rfl (by rw [ex3_3]; rfl) (by decide) rfl (fun ls hl => ?_)
    refine lv_lload hx hb dX7_times_18 (lv_at hl 2 rfl) ?_
    refine lv_iload_n hx hb dX7_times_20 rfl (lv_at hl 1 rfl) ?_
    refine lv_i2l hx hb dX7_times_21 rfl ?_
    obtain ⟨hz4, h⟩ := md_g h
    refine lv_ldiv hx hb dX7_times_22 hz4 ?_
    refine lv_topl (fun x4_5 ex4_5 => ?_)
    replace h := md_le ex4_5 h
    refine lv_lstore (lv' := [(4, .long x4_5), (3, .int x3_3), (2, .int x2)]) hx hb dX7_times_23 hl (by decide) rfl (fun ls hl => ?_)
    refine lv_goto (tgt := 5) hx hb dX7_times_25 (by decide) ?_
    exact ih x3_3 x4_5 h ls (lv_sub hl [2, 1, 0] rfl)
def mX7_times (p1 : Int64) (p2 : Int32) : Option Int32 := (mlX7_times_5 p2 (fun (y3_28 : Int32) => (some y3_28)) kN (0 : Int32) p1)
set_option maxHeartbeats 4000000 in
set_option maxRecDepth 100000 in
theorem bX7_times {p : Program} {l : Launch} {e : Env} {s : State} {m : MethodId} {args : Array Value} {below : List Frame} {meth : Method} {c : Code} {Q : State → Prop} (C : kc p s m args meth c cX7_times 6 RX7 yX7_times.name wsX7_times (some .int)) (p1 : Int64) (p2 : Int32) (res : Int32) (hQ : ∀ (v : Int32) (pc : Nat) (ls : Array Slot), some v = some res → decode cX7_times pc = .ok (.ireturn, 1) → W p l e rmX7_times s m args below meth c s.heap [] 0 0 Q (F0 m pc ls [.int v])) : mX7_times p1 p2 = some res → ∀ (ls : Array Slot), lv_has ls 6 [(0, .long p1), (2, .int p2)] → W p l e rmX7_times s m args below meth c s.heap [] 0 0 Q (F0 m 0 ls []) := by
  intro h ls hl
  have C0 := C
  obtain ⟨hx, hb, hml, hown, hts, hr, hlk, hnm⟩ := C0
  rw [mX7_times] at h
  refine lv_iconst (v := 0) hx hb dX7_times_0 (by decide) ?_
  refine lv_istore_n (lv' := [(3, .int (0 : Int32)), (0, .long p1), (2, .int p2)]) hx hb dX7_times_1 rfl hl (by decide) rfl (fun ls hl => ?_)
  refine lv_lload_n hx hb dX7_times_2 rfl (lv_at hl 1 rfl) ?_
  refine lv_lstore (lv' := [(4, .long p1), (3, .int (0 : Int32)), (0, .long p1), (2, .int p2)]) hx hb dX7_times_3 hl (by decide) rfl (fun ls hl => ?_)
  refine lX7_times_5 C p2 res hQ _ (fun y3_28 h ls hl => ?_) kN (0 : Int32) p1 h ls (lv_sub hl [3, 1, 0] rfl)
  refine lv_iload_n hx hb dX7_times_28 rfl (lv_at hl 0 rfl) ?_
  exact hQ y3_28 29 ls h dX7_times_29
set_option maxHeartbeats 4000000 in
theorem ctX7_times (l : Launch) {p1 : Int64} {p2 : Int32} {res : Int32} (hm : mX7_times p1 p2 = some res) : Met l yX7_times wsX7_times rmX7_times (va_Pc [.long p1, .int p2] (fun _ => True)) (kR (.int res)) 0 0 (fun _ => False) :=
  km (by decide) rfl (Nat.le_of_ble_eq_true rfl) (fun p e s m below meth c ls C hB hl => bX7_times C p1 p2 res (fun v pc ls h hd => kr_i C h hd) hm ls hl)
theorem kdX7_isEven : yX7_isEven.cls ≠ "java/lang/invoke/MethodHandle" ∧ yX7_isEven.cls ≠ "java/lang/invoke/VarHandle" ∧ (parseMethodDescriptor yX7_isEven.desc).map (fun d => d.parameters.length) = some 1 := by decide +kernel
abbrev rmX7_isEven : Room := { frames := 0, cells := 0, slots := 0, locals := 0 }
def mlX7_isEven_12 (x4 : Int32) (kE : Int64 → Option Int32) : Nat → Int64 → Option Int32
  | 0, _ => none
  | n + 1, x2 => (if (Int32.toInt64 x4) = 0 then none else (if (x2 - x2 / (Int32.toInt64 x4) * (Int32.toInt64 x4)) = (0 : Int64) then (if (Int32.toInt64 x4) = 0 then none else (md_let (x2 / (Int32.toInt64 x4)) (fun (x2_5 : Int64) => (mlX7_isEven_12 x4 kE n x2_5)))) else (kE x2)))
set_option maxHeartbeats 4000000 in
set_option maxRecDepth 100000 in
theorem lX7_isEven_12 {p : Program} {l : Launch} {e : Env} {s : State} {m : MethodId} {args : Array Value} {below : List Frame} {meth : Method} {c : Code} {Q : State → Prop} (C : kc p s m args meth c cX7_isEven 5 RX7 yX7_isEven.name wsX7_isEven (some .boolean)) (x4 : Int32) (res : Int32) (hQ : ∀ (v : Int32) (pc : Nat) (ls : Array Slot), v = 0 ∨ v = 1 → some v = some res → decode cX7_isEven pc = .ok (.ireturn, 1) → W p l e rmX7_isEven s m args below meth c s.heap [] 0 0 Q (F0 m pc ls [.int v])) (kE : Int64 → Option Int32) (hE : ∀ (y2 : Int64), kE y2 = some res → ∀ (ls : Array Slot), lv_has ls 5 [(2, .long y2), (4, .int x4)] → W p l e rmX7_isEven s m args below meth c s.heap [] 0 0 Q (F0 m 31 ls [])) : ∀ (n : Nat), ∀ (x2 : Int64), mlX7_isEven_12 x4 kE n x2 = some res → ∀ (ls : Array Slot), lv_has ls 5 [(2, .long x2), (4, .int x4)] → W p l e rmX7_isEven s m args below meth c s.heap [] 0 0 Q (F0 m 12 ls []) := by
  have C0 := C
  obtain ⟨hx, hb, hml, hown, hts, hr, hlk, hnm⟩ := C0
  intro n
  induction n with
  | zero => intro _ h; exact md_x h
  | succ n ih =>
    intro x2 h ls hl
    rw [mlX7_isEven_12] at h
    refine lv_lload_n hx hb dX7_isEven_12 rfl (lv_at hl 0 rfl) ?_
    refine lv_iload hx hb dX7_isEven_13 (lv_at hl 1 rfl) ?_
    refine lv_i2l hx hb dX7_isEven_15 rfl ?_
    obtain ⟨hz2, h⟩ := md_g h
    refine lv_lrem hx hb dX7_isEven_16 hz2 ?_
    refine lv_lconst (v := 0) hx hb dX7_isEven_17 (by decide) ?_
    refine W.lcmp hx hb dX7_isEven_18 ?_
    refine lv_if_ne (tgt := 31) hx hb dX7_isEven_19 (by decide) (fun c3 => ?_) (fun c3 => ?_)
    · replace c3 := fun q9 => c3 ((lg_cmp_eq _ _).mpr q9)
      replace h := md_f c3 h
      exact hE x2 h ls (lv_sub hl [0, 1] rfl)
    replace c3 := (lg_cmp_eq _ _).mp c3
    replace h := md_t c3 h
    refine lv_lload_n hx hb dX7_isEven_22 rfl (lv_at hl 0 rfl) ?_
    refine lv_iload hx hb dX7_isEven_23 (lv_at hl 1 rfl) ?_
    refine lv_i2l hx hb dX7_isEven_25 rfl ?_
    obtain ⟨hz4, h⟩ := md_g h
    refine lv_ldiv hx hb dX7_isEven_26 hz4 ?_
    refine lv_topl (fun x2_5 ex2_5 => ?_)
    replace h := md_le ex2_5 h
    refine lv_lstore_n (lv' := [(2, .long x2_5), (4, .int x4)]) hx hb dX7_isEven_27 rfl hl (by decide) rfl (fun ls hl => ?_)
    refine lv_goto (tgt := 12) hx hb dX7_isEven_28 (by decide) ?_
    exact ih x2_5 h ls (lv_sub hl [0, 1] rfl)
def mlX7_isEven_5 (kE : Int64 → Option Int32) : Nat → Int64 → Int32 → Option Int32
  | 0, _, _ => none
  | n + 1, x2, x4 => (if (6 : Int32) ≤ x4 then (kE x2) else (mlX7_isEven_12 x4 (fun (y2_31 : Int64) => (md_let (x4 + (1 : Int32)) (fun (x4_6 : Int32) => (mlX7_isEven_5 kE n y2_31 x4_6)))) kN x2))
set_option maxHeartbeats 4000000 in
set_option maxRecDepth 100000 in
theorem lX7_isEven_5 {p : Program} {l : Launch} {e : Env} {s : State} {m : MethodId} {args : Array Value} {below : List Frame} {meth : Method} {c : Code} {Q : State → Prop} (C : kc p s m args meth c cX7_isEven 5 RX7 yX7_isEven.name wsX7_isEven (some .boolean)) (res : Int32) (hQ : ∀ (v : Int32) (pc : Nat) (ls : Array Slot), v = 0 ∨ v = 1 → some v = some res → decode cX7_isEven pc = .ok (.ireturn, 1) → W p l e rmX7_isEven s m args below meth c s.heap [] 0 0 Q (F0 m pc ls [.int v])) (kE : Int64 → Option Int32) (hE : ∀ (y2 : Int64), kE y2 = some res → ∀ (ls : Array Slot), lv_has ls 5 [(2, .long y2)] → W p l e rmX7_isEven s m args below meth c s.heap [] 0 0 Q (F0 m 37 ls [])) : ∀ (n : Nat), ∀ (x2 : Int64) (x4 : Int32), mlX7_isEven_5 kE n x2 x4 = some res → ∀ (ls : Array Slot), lv_has ls 5 [(2, .long x2), (4, .int x4)] → W p l e rmX7_isEven s m args below meth c s.heap [] 0 0 Q (F0 m 5 ls []) := by
  have C0 := C
  obtain ⟨hx, hb, hml, hown, hts, hr, hlk, hnm⟩ := C0
  intro n
  induction n with
  | zero => intro _ _ h; exact md_x h
  | succ n ih =>
    intro x2 x4 h ls hl
    rw [mlX7_isEven_5] at h
    refine lv_iload hx hb dX7_isEven_5 (lv_at hl 1 rfl) ?_
    refine lv_bipush (v := 6) hx hb dX7_isEven_7 (by decide) ?_
    refine lv_icmp_ge (tgt := 37) hx hb dX7_isEven_9 (by decide) (fun c1 => ?_) (fun c1 => ?_)
    · replace h := md_t c1 h
      exact hE x2 h ls (lv_sub hl [0] rfl)
    replace h := md_f c1 h
    refine lX7_isEven_12 C x4 res hQ _ (fun y2_31 h ls hl => ?_) kN x2 h ls (lv_sub hl [0, 1] rfl)
    obtain ⟨x4_6, ex4_6⟩ : ∃ y : Int32, y = (x4 + (1 : Int32)) := ⟨_, rfl⟩
    replace h := md_le ex4_6 h
    refine lv_iinc (v := x4_6) (lv' := [(4, .int x4_6), (2, .long y2_31)]) hx hb dX7_isEven_31 hl (k := 1) rfl (by rw [ex4_6]; rfl) (by decide) rfl (fun ls hl => ?_)
    refine lv_goto (tgt := 5) hx hb dX7_isEven_34 (by decide) ?_
    exact ih y2_31 x4_6 h ls (lv_sub hl [1, 0] rfl)
def mX7_isEven (p1 : Int64) : Option Int32 := (mlX7_isEven_5 (fun (y2_37 : Int64) => (if y2_37 = (1 : Int64) then (some (1 : Int32)) else (some (0 : Int32)))) kN p1 (2 : Int32))
set_option maxHeartbeats 4000000 in
set_option maxRecDepth 100000 in
theorem bX7_isEven {p : Program} {l : Launch} {e : Env} {s : State} {m : MethodId} {args : Array Value} {below : List Frame} {meth : Method} {c : Code} {Q : State → Prop} (C : kc p s m args meth c cX7_isEven 5 RX7 yX7_isEven.name wsX7_isEven (some .boolean)) (p1 : Int64) (res : Int32) (hQ : ∀ (v : Int32) (pc : Nat) (ls : Array Slot), v = 0 ∨ v = 1 → some v = some res → decode cX7_isEven pc = .ok (.ireturn, 1) → W p l e rmX7_isEven s m args below meth c s.heap [] 0 0 Q (F0 m pc ls [.int v])) : mX7_isEven p1 = some res → ∀ (ls : Array Slot), lv_has ls 5 [(0, .long p1)] → W p l e rmX7_isEven s m args below meth c s.heap [] 0 0 Q (F0 m 0 ls []) := by
  intro h ls hl
  have C0 := C
  obtain ⟨hx, hb, hml, hown, hts, hr, hlk, hnm⟩ := C0
  rw [mX7_isEven] at h
  refine lv_lload_n hx hb dX7_isEven_0 rfl (lv_at hl 0 rfl) ?_
  refine lv_lstore_n (lv' := [(2, .long p1), (0, .long p1)]) hx hb dX7_isEven_1 rfl hl (by decide) rfl (fun ls hl => ?_)
  refine lv_iconst (v := 2) hx hb dX7_isEven_2 (by decide) ?_
  refine lv_istore (lv' := [(4, .int (2 : Int32)), (2, .long p1), (0, .long p1)]) hx hb dX7_isEven_3 hl (by decide) rfl (fun ls hl => ?_)
  refine lX7_isEven_5 C res hQ _ (fun y2_37 h ls hl => ?_) kN p1 (2 : Int32) h ls (lv_sub hl [1, 0] rfl)
  refine lv_lload_n hx hb dX7_isEven_37 rfl (lv_at hl 0 rfl) ?_
  refine lv_lconst (v := 1) hx hb dX7_isEven_38 (by decide) ?_
  refine W.lcmp hx hb dX7_isEven_39 ?_
  refine lv_if_ne (tgt := 47) hx hb dX7_isEven_40 (by decide) (fun c7 => ?_) (fun c7 => ?_)
  · replace c7 := fun q9 => c7 ((lg_cmp_eq _ _).mpr q9)
    replace h := md_f c7 h
    refine lv_iconst (v := 0) hx hb dX7_isEven_47 (by decide) ?_
    exact hQ (0 : Int32) 48 ls (by decide) h dX7_isEven_48
  replace c7 := (lg_cmp_eq _ _).mp c7
  replace h := md_t c7 h
  refine lv_iconst (v := 1) hx hb dX7_isEven_43 (by decide) ?_
  refine lv_goto (tgt := 48) hx hb dX7_isEven_44 (by decide) ?_
  exact hQ (1 : Int32) 48 ls (by decide) h dX7_isEven_48
set_option maxHeartbeats 4000000 in
theorem ctX7_isEven (l : Launch) {p1 : Int64} {res : Int32} (hm : mX7_isEven p1 = some res) : Met l yX7_isEven wsX7_isEven rmX7_isEven (va_Pc [.long p1] (fun _ => True)) (kR (.int res)) 0 0 (fun _ => False) :=
  km (by decide) rfl (Nat.le_of_ble_eq_true rfl) (fun p e s m below meth c ls C hB hl => bX7_isEven C p1 res (fun v pc ls hz h hd => kr_z C hz h hd) hm ls hl)
theorem kdvX7_even : yX7_even.cls = RX7 ∧ yX7_even.cls ≠ "java/lang/invoke/MethodHandle" ∧ yX7_even.cls ≠ "java/lang/invoke/VarHandle" ∧ (parseMethodDescriptor yX7_even.desc).map (fun d => d.parameters.length) = some 1 := by decide +kernel
abbrev rmX7_even : Room := { frames := 2, cells := 0, slots := 0, locals := 46 }
def mX7_even (p1 : Int64) : Option Int32 := (Option.bind (mX7_isGiven p1) (fun u1 => (if u1 = 0 then (some (-2 : Int32)) else (Option.bind (mX7_isEven p1) (fun u3 => (if u3 = 0 then (some (0 : Int32)) else (some (1 : Int32))))))))
set_option maxHeartbeats 4000000 in
set_option maxRecDepth 100000 in
theorem bX7_even {p : Program} {l : Launch} {e : Env} {s : State} {m : MethodId} {args : Array Value} {below : List Frame} {meth : Method} {c : Code} {Q : State → Prop} (C : kc p s m args meth c cX7_even 3 RX7 yX7_even.name wsX7_even (some .int)) {mo : Nat} (p1 : Int64) (res : Int32) (hQ : ∀ (v : Int32) (pc : Nat) (ls : Array Slot), some v = some res → decode cX7_even pc = .ok (.ireturn, 1) → W p l e rmX7_even s m args below meth c s.heap [] 0 0 Q (F0 m pc ls [.int v])) : mX7_even p1 = some res → ∀ (ls : Array Slot), lv_has ls 3 [(0, .ref mo), (1, .long p1)] → W p l e rmX7_even s m args below meth c s.heap [] 0 0 Q (F0 m 0 ls []) := by
  intro h ls hl
  have C0 := C
  obtain ⟨hx, hb, hml, hown, hts, hr, hlk, hnm⟩ := C0
  rw [mX7_even] at h
  refine lv_lload_n hx hb dX7_even_0 rfl (lv_at hl 1 rfl) ?_
  obtain ⟨u1, hu1, h⟩ := md_b h
  refine kS C (ctX7_isGiven l  hu1) gX7_even_X7_isGiven rfl kdX7_isGiven ⟨rfl, rfl⟩ ⟨by decide, by decide⟩ kT_blind (fun _ _ _ => trivial) rfl hl [] rfl (Nat.le_of_ble_eq_true rfl) dX7_even_1 ⟨by decide, by decide⟩ ?_
  refine lv_if_ne (tgt := 12) hx hb dX7_even_4 (by decide) (fun c2 => ?_) (fun c2 => ?_)
  · replace h := md_f c2 h
    refine lv_lload_n hx hb dX7_even_12 rfl (lv_at hl 1 rfl) ?_
    obtain ⟨u3, hu3, h⟩ := md_b h
    refine kS C (ctX7_isEven l  hu3) gX7_even_X7_isEven rfl kdX7_isEven ⟨rfl, rfl⟩ ⟨by decide, by decide⟩ kT_blind (fun _ _ _ => trivial) rfl hl [] rfl (Nat.le_of_ble_eq_true rfl) dX7_even_13 ⟨by decide, by decide⟩ ?_
    refine lv_if_eq (tgt := 23) hx hb dX7_even_16 (by decide) (fun c4 => ?_) (fun c4 => ?_)
    · replace h := md_t c4 h
      refine lv_iconst (v := 0) hx hb dX7_even_23 (by decide) ?_
      exact hQ (0 : Int32) 24 ls h dX7_even_24
    replace h := md_f c4 h
    refine lv_iconst (v := 1) hx hb dX7_even_19 (by decide) ?_
    refine lv_goto (tgt := 24) hx hb dX7_even_20 (by decide) ?_
    exact hQ (1 : Int32) 24 ls h dX7_even_24
  replace h := md_t c2 h
  refine lv_bipush (v := -2) hx hb dX7_even_7 (by decide) ?_
  refine lv_goto (tgt := 24) hx hb dX7_even_9 (by decide) ?_
  exact hQ (-2 : Int32) 24 ls h dX7_even_24
set_option maxHeartbeats 4000000 in
theorem ctX7_even (l : Launch) {mo : Nat} {p1 : Int64} {res : Int32} (hm : mX7_even p1 = some res) : Met l yX7_even wsX7_even rmX7_even (va_Pc [.ref mo, .long p1] (fun _ => True)) (kR (.int res)) 0 0 (fun _ => False) :=
  km (by decide) rfl (Nat.le_of_ble_eq_true rfl) (fun p e s m below meth c ls C hB hl => bX7_even C p1 res (fun v pc ls h hd => kr_i C h hd) hm ls hl)
theorem wm_X7_turnedOf_0 : Cond.constantLong RX7 84 (167961600000000) ∈ wsX7_turnedOf := by decide +kernel
theorem wm_X7_turnedOf_1 : Cond.constantLong RX7 70 (-1) ∈ wsX7_turnedOf := by decide +kernel
theorem kdX7_turnedOf : yX7_turnedOf.cls ≠ "java/lang/invoke/MethodHandle" ∧ yX7_turnedOf.cls ≠ "java/lang/invoke/VarHandle" ∧ (parseMethodDescriptor yX7_turnedOf.desc).map (fun d => d.parameters.length) = some 1 := by decide +kernel
abbrev rmX7_turnedOf : Room := { frames := 1, cells := 0, slots := 0, locals := 25 }
def mlX7_turnedOf_72 (x4 : Int32) (x5 : Int32) (x6 : Int32) (x7 : Int32) (kE : Int64 → Option Int64) : Nat → Int64 → Int32 → Option Int64
  | 0, _, _ => none
  | n + 1, x8, x10 => (if ((4 : Int32) * x7) ≤ x10 then (kE x8) else (md_jn (fun (z0_106 : Int32) => (md_jn (fun (z0_179 : Int32) => (md_jn (fun (z0_223 : Int64) => (md_let (x10 + (1 : Int32)) (fun (x10_7 : Int32) => (mlX7_turnedOf_72 x4 x5 x6 x7 kE n z0_223 x10_7)))) (fun kJ223 => (md_jn (fun (u_193 : Unit) => (kJ223 x8)) (fun kJ193 => (if x8 < (0 : Int64) then (kJ193 ()) else (if z0_179 = 0 then (kJ193 ()) else (if (x8 * (Int32.toInt64 z0_106)) < (167961600000000 : Int64) then (kJ223 (x8 * (Int32.toInt64 z0_106))) else (kJ223 (-1 : Int64)))))))))) (fun kJ179 => (if (2 : Int32) ≤ (x10 - x10 / (4 : Int32) * (4 : Int32)) then (if (x10 - x10 / (4 : Int32) * (4 : Int32)) = (2 : Int32) then (if (x10 / (4 : Int32)) < x5 then (kJ179 (0 : Int32)) else (kJ179 (1 : Int32))) else (if (x10 / (4 : Int32)) < x6 then (kJ179 (0 : Int32)) else (kJ179 (1 : Int32)))) else (if (((x10 / (4 : Int32)) * (2 : Int32)) + (x10 - x10 / (4 : Int32) * (4 : Int32))) < x4 then (kJ179 (0 : Int32)) else (kJ179 (1 : Int32))))))) (fun kJ106 => (if (2 : Int32) ≤ (x10 - x10 / (4 : Int32) * (4 : Int32)) then (if (x10 - x10 / (4 : Int32) * (4 : Int32)) = (2 : Int32) then (kJ106 (3 : Int32)) else (kJ106 (5 : Int32))) else (kJ106 (2 : Int32))))))
set_option maxHeartbeats 4000000 in
set_option maxRecDepth 100000 in
theorem lX7_turnedOf_72 {p : Program} {l : Launch} {e : Env} {s : State} {m : MethodId} {args : Array Value} {below : List Frame} {meth : Method} {c : Code} {Q : State → Prop} (C : kc p s m args meth c cX7_turnedOf 13 RX7 yX7_turnedOf.name wsX7_turnedOf (some .long)) (x4 : Int32) (x5 : Int32) (x6 : Int32) (x7 : Int32) (res : Int64) (hQ : ∀ (v : Int64) (pc : Nat) (ls : Array Slot), some v = some res → decode cX7_turnedOf pc = .ok (.lreturn, 1) → W p l e rmX7_turnedOf s m args below meth c s.heap [] 0 0 Q (F0 m pc ls [.long v])) (kE : Int64 → Option Int64) (hE : ∀ (y8 : Int64), kE y8 = some res → ∀ (ls : Array Slot), lv_has ls 13 [(8, .long y8)] → W p l e rmX7_turnedOf s m args below meth c s.heap [] 0 0 Q (F0 m 231 ls [])) : ∀ (n : Nat), ∀ (x8 : Int64) (x10 : Int32), mlX7_turnedOf_72 x4 x5 x6 x7 kE n x8 x10 = some res → ∀ (ls : Array Slot), lv_has ls 13 [(4, .int x4), (5, .int x5), (6, .int x6), (7, .int x7), (8, .long x8), (10, .int x10)] → W p l e rmX7_turnedOf s m args below meth c s.heap [] 0 0 Q (F0 m 72 ls []) := by
  have C0 := C
  obtain ⟨hx, hb, hml, hown, hts, hr, hlk, hnm⟩ := C0
  intro n
  induction n with
  | zero => intro _ _ h; exact md_x h
  | succ n ih =>
    intro x8 x10 h ls hl
    rw [mlX7_turnedOf_72] at h
    refine lv_iload hx hb dX7_turnedOf_72 (lv_at hl 5 rfl) ?_
    refine lv_iconst (v := 4) hx hb dX7_turnedOf_74 (by decide) ?_
    refine lv_iload hx hb dX7_turnedOf_75 (lv_at hl 3 rfl) ?_
    refine lv_imul hx hb dX7_turnedOf_77 ?_
    refine lv_icmp_ge (tgt := 231) hx hb dX7_turnedOf_78 (by decide) (fun c6 => ?_) (fun c6 => ?_)
    · replace h := md_t c6 h
      exact hE x8 h ls (lv_sub hl [4] rfl)
    replace h := md_f c6 h
    refine lv_iload hx hb dX7_turnedOf_81 (lv_at hl 5 rfl) ?_
    refine lv_iconst (v := 4) hx hb dX7_turnedOf_83 (by decide) ?_
    refine lv_irem hx hb dX7_turnedOf_84 (by decide) ?_
    refine lv_iconst (v := 2) hx hb dX7_turnedOf_85 (by decide) ?_
    obtain ⟨kJ106, ekJ106, h⟩ := md_jo h
    have KJ106 : ∀ (z0_106 : Int32), kJ106 z0_106 = some res → ∀ (ls : Array Slot), lv_has ls 13 [(4, .int x4), (5, .int x5), (6, .int x6), (7, .int x7), (8, .long x8), (10, .int x10)] → W p l e rmX7_turnedOf s m args below meth c s.heap [] 0 0 Q (F0 m 106 ls [.int z0_106]) := by
      intro z0_106 h ls hl
      rw [ekJ106] at h
      refine lv_istore (lv' := [(11, .int z0_106), (4, .int x4), (5, .int x5), (6, .int x6), (7, .int x7), (8, .long x8), (10, .int x10)]) hx hb dX7_turnedOf_106 hl (by decide) rfl (fun ls hl => ?_)
      refine lv_iload hx hb dX7_turnedOf_108 (lv_at hl 6 rfl) ?_
      refine lv_iconst (v := 4) hx hb dX7_turnedOf_110 (by decide) ?_
      refine lv_irem hx hb dX7_turnedOf_111 (by decide) ?_
      refine lv_iconst (v := 2) hx hb dX7_turnedOf_112 (by decide) ?_
      obtain ⟨kJ179, ekJ179, h⟩ := md_jo h
      have KJ179 : ∀ (z0_179 : Int32), kJ179 z0_179 = some res → ∀ (ls : Array Slot), lv_has ls 13 [(4, .int x4), (5, .int x5), (6, .int x6), (7, .int x7), (8, .long x8), (10, .int x10), (11, .int z0_106)] → W p l e rmX7_turnedOf s m args below meth c s.heap [] 0 0 Q (F0 m 179 ls [.int z0_179]) := by
        intro z0_179 h ls hl
        rw [ekJ179] at h
        refine lv_istore (lv' := [(12, .int z0_179), (4, .int x4), (5, .int x5), (6, .int x6), (7, .int x7), (8, .long x8), (10, .int x10), (11, .int z0_106)]) hx hb dX7_turnedOf_179 hl (by decide) rfl (fun ls hl => ?_)
        refine lv_lload hx hb dX7_turnedOf_181 (lv_at hl 5 rfl) ?_
        refine lv_lconst (v := 0) hx hb dX7_turnedOf_183 (by decide) ?_
        refine W.lcmp hx hb dX7_turnedOf_184 ?_
        obtain ⟨kJ223, ekJ223, h⟩ := md_jo h
        have KJ223 : ∀ (z0_223 : Int64), kJ223 z0_223 = some res → ∀ (ls : Array Slot), lv_has ls 13 [(4, .int x4), (5, .int x5), (6, .int x6), (7, .int x7), (10, .int x10)] → W p l e rmX7_turnedOf s m args below meth c s.heap [] 0 0 Q (F0 m 223 ls [.long z0_223]) := by
          intro z0_223 h ls hl
          rw [ekJ223] at h
          refine lv_lstore (lv' := [(8, .long z0_223), (4, .int x4), (5, .int x5), (6, .int x6), (7, .int x7), (10, .int x10)]) hx hb dX7_turnedOf_223 hl (by decide) rfl (fun ls hl => ?_)
          obtain ⟨x10_7, ex10_7⟩ : ∃ y : Int32, y = (x10 + (1 : Int32)) := ⟨_, rfl⟩
          replace h := md_le ex10_7 h
          refine lv_iinc (v := x10_7) (lv' := [(10, .int x10_7), (8, .long z0_223), (4, .int x4), (5, .int x5), (6, .int x6), (7, .int x7)]) hx hb dX7_turnedOf_225 hl (k := 5) rfl (by rw [ex10_7]; rfl) (by decide) rfl (fun ls hl => ?_)
          refine lv_goto (tgt := 72) hx hb dX7_turnedOf_228 (by decide) ?_
          exact ih z0_223 x10_7 h ls (lv_sub hl [2, 3, 4, 5, 1, 0] rfl)
        clear ekJ223
        obtain ⟨kJ193, ekJ193, h⟩ := md_jo h
        have KJ193 : ∀ (u_193 : Unit), kJ193 u_193 = some res → ∀ (ls : Array Slot), lv_has ls 13 [(4, .int x4), (5, .int x5), (6, .int x6), (7, .int x7), (8, .long x8), (10, .int x10)] → W p l e rmX7_turnedOf s m args below meth c s.heap [] 0 0 Q (F0 m 193 ls []) := by
          intro u_193 h ls hl
          rw [ekJ193] at h
          refine lv_lload hx hb dX7_turnedOf_193 (lv_at hl 4 rfl) ?_
          refine lv_goto (tgt := 223) hx hb dX7_turnedOf_195 (by decide) ?_
          exact KJ223 x8 h ls (lv_sub hl [0, 1, 2, 3, 5] rfl)
        clear ekJ193
        refine lv_if_lt (tgt := 193) hx hb dX7_turnedOf_185 (by decide) (fun c8 => ?_) (fun c8 => ?_)
        · replace c8 := (lg_cmp_lt _ _).mp c8
          replace h := md_t c8 h
          exact KJ193 () h ls (lv_sub hl [1, 2, 3, 4, 5, 6] rfl)
        replace c8 := fun q9 => c8 ((lg_cmp_lt _ _).mpr q9)
        replace h := md_f c8 h
        refine lv_iload hx hb dX7_turnedOf_188 (lv_at hl 0 rfl) ?_
        refine lv_if_ne (tgt := 198) hx hb dX7_turnedOf_190 (by decide) (fun c9 => ?_) (fun c9 => ?_)
        · replace h := md_f c9 h
          refine lv_lload hx hb dX7_turnedOf_198 (lv_at hl 5 rfl) ?_
          refine lv_iload hx hb dX7_turnedOf_200 (lv_at hl 7 rfl) ?_
          refine lv_i2l hx hb dX7_turnedOf_202 rfl ?_
          refine lv_lmul hx hb dX7_turnedOf_203 ?_
          refine lv_ldc2 hx hb hown (hts _ wm_X7_turnedOf_0) dX7_turnedOf_204 ?_
          refine W.lcmp hx hb dX7_turnedOf_207 ?_
          refine lv_if_lt (tgt := 217) hx hb dX7_turnedOf_208 (by decide) (fun c10 => ?_) (fun c10 => ?_)
          · replace c10 := (lg_cmp_lt _ _).mp c10
            replace h := md_t c10 h
            refine lv_lload hx hb dX7_turnedOf_217 (lv_at hl 5 rfl) ?_
            refine lv_iload hx hb dX7_turnedOf_219 (lv_at hl 7 rfl) ?_
            refine lv_i2l hx hb dX7_turnedOf_221 rfl ?_
            refine lv_lmul hx hb dX7_turnedOf_222 ?_
            exact KJ223 (x8 * (Int32.toInt64 z0_106)) h ls (lv_sub hl [1, 2, 3, 4, 6] rfl)
          replace c10 := fun q9 => c10 ((lg_cmp_lt _ _).mpr q9)
          replace h := md_f c10 h
          refine lv_ldc2 hx hb hown (hts _ wm_X7_turnedOf_1) dX7_turnedOf_211 ?_
          refine lv_goto (tgt := 223) hx hb dX7_turnedOf_214 (by decide) ?_
          exact KJ223 (-1 : Int64) h ls (lv_sub hl [1, 2, 3, 4, 6] rfl)
        replace h := md_t c9 h
        exact KJ193 () h ls (lv_sub hl [1, 2, 3, 4, 5, 6] rfl)
      clear ekJ179
      refine lv_icmp_ge (tgt := 140) hx hb dX7_turnedOf_113 (by decide) (fun c11 => ?_) (fun c11 => ?_)
      · replace h := md_t c11 h
        refine lv_iload hx hb dX7_turnedOf_140 (lv_at hl 6 rfl) ?_
        refine lv_iconst (v := 4) hx hb dX7_turnedOf_142 (by decide) ?_
        refine lv_irem hx hb dX7_turnedOf_143 (by decide) ?_
        refine lv_iconst (v := 2) hx hb dX7_turnedOf_144 (by decide) ?_
        refine lv_icmp_ne (tgt := 165) hx hb dX7_turnedOf_145 (by decide) (fun c12 => ?_) (fun c12 => ?_)
        · replace h := md_f c12 h
          refine lv_iload hx hb dX7_turnedOf_165 (lv_at hl 6 rfl) ?_
          refine lv_iconst (v := 4) hx hb dX7_turnedOf_167 (by decide) ?_
          refine lv_idiv hx hb dX7_turnedOf_168 (by decide) ?_
          refine lv_iload hx hb dX7_turnedOf_169 (lv_at hl 3 rfl) ?_
          refine lv_icmp_lt (tgt := 178) hx hb dX7_turnedOf_171 (by decide) (fun c13 => ?_) (fun c13 => ?_)
          · replace h := md_t c13 h
            refine lv_iconst (v := 0) hx hb dX7_turnedOf_178 (by decide) ?_
            exact KJ179 (0 : Int32) h ls (lv_sub hl [1, 2, 3, 4, 5, 6, 0] rfl)
          replace h := md_f c13 h
          refine lv_iconst (v := 1) hx hb dX7_turnedOf_174 (by decide) ?_
          refine lv_goto (tgt := 179) hx hb dX7_turnedOf_175 (by decide) ?_
          exact KJ179 (1 : Int32) h ls (lv_sub hl [1, 2, 3, 4, 5, 6, 0] rfl)
        replace h := md_t c12 h
        refine lv_iload hx hb dX7_turnedOf_148 (lv_at hl 6 rfl) ?_
        refine lv_iconst (v := 4) hx hb dX7_turnedOf_150 (by decide) ?_
        refine lv_idiv hx hb dX7_turnedOf_151 (by decide) ?_
        refine lv_iload hx hb dX7_turnedOf_152 (lv_at hl 2 rfl) ?_
        refine lv_icmp_lt (tgt := 161) hx hb dX7_turnedOf_154 (by decide) (fun c14 => ?_) (fun c14 => ?_)
        · replace h := md_t c14 h
          refine lv_iconst (v := 0) hx hb dX7_turnedOf_161 (by decide) ?_
          refine lv_goto (tgt := 179) hx hb dX7_turnedOf_162 (by decide) ?_
          exact KJ179 (0 : Int32) h ls (lv_sub hl [1, 2, 3, 4, 5, 6, 0] rfl)
        replace h := md_f c14 h
        refine lv_iconst (v := 1) hx hb dX7_turnedOf_157 (by decide) ?_
        refine lv_goto (tgt := 179) hx hb dX7_turnedOf_158 (by decide) ?_
        exact KJ179 (1 : Int32) h ls (lv_sub hl [1, 2, 3, 4, 5, 6, 0] rfl)
      replace h := md_f c11 h
      refine lv_iload hx hb dX7_turnedOf_116 (lv_at hl 6 rfl) ?_
      refine lv_iconst (v := 4) hx hb dX7_turnedOf_118 (by decide) ?_
      refine lv_idiv hx hb dX7_turnedOf_119 (by decide) ?_
      refine lv_iconst (v := 2) hx hb dX7_turnedOf_120 (by decide) ?_
      refine lv_imul hx hb dX7_turnedOf_121 ?_
      refine lv_iload hx hb dX7_turnedOf_122 (lv_at hl 6 rfl) ?_
      refine lv_iconst (v := 4) hx hb dX7_turnedOf_124 (by decide) ?_
      refine lv_irem hx hb dX7_turnedOf_125 (by decide) ?_
      refine lv_iadd hx hb dX7_turnedOf_126 ?_
      refine lv_iload hx hb dX7_turnedOf_127 (lv_at hl 1 rfl) ?_
      refine lv_icmp_lt (tgt := 136) hx hb dX7_turnedOf_129 (by decide) (fun c15 => ?_) (fun c15 => ?_)
      · replace h := md_t c15 h
        refine lv_iconst (v := 0) hx hb dX7_turnedOf_136 (by decide) ?_
        refine lv_goto (tgt := 179) hx hb dX7_turnedOf_137 (by decide) ?_
        exact KJ179 (0 : Int32) h ls (lv_sub hl [1, 2, 3, 4, 5, 6, 0] rfl)
      replace h := md_f c15 h
      refine lv_iconst (v := 1) hx hb dX7_turnedOf_132 (by decide) ?_
      refine lv_goto (tgt := 179) hx hb dX7_turnedOf_133 (by decide) ?_
      exact KJ179 (1 : Int32) h ls (lv_sub hl [1, 2, 3, 4, 5, 6, 0] rfl)
    clear ekJ106
    refine lv_icmp_ge (tgt := 93) hx hb dX7_turnedOf_86 (by decide) (fun c16 => ?_) (fun c16 => ?_)
    · replace h := md_t c16 h
      refine lv_iload hx hb dX7_turnedOf_93 (lv_at hl 5 rfl) ?_
      refine lv_iconst (v := 4) hx hb dX7_turnedOf_95 (by decide) ?_
      refine lv_irem hx hb dX7_turnedOf_96 (by decide) ?_
      refine lv_iconst (v := 2) hx hb dX7_turnedOf_97 (by decide) ?_
      refine lv_icmp_ne (tgt := 105) hx hb dX7_turnedOf_98 (by decide) (fun c17 => ?_) (fun c17 => ?_)
      · replace h := md_f c17 h
        refine lv_iconst (v := 5) hx hb dX7_turnedOf_105 (by decide) ?_
        exact KJ106 (5 : Int32) h ls (lv_sub hl [0, 1, 2, 3, 4, 5] rfl)
      replace h := md_t c17 h
      refine lv_iconst (v := 3) hx hb dX7_turnedOf_101 (by decide) ?_
      refine lv_goto (tgt := 106) hx hb dX7_turnedOf_102 (by decide) ?_
      exact KJ106 (3 : Int32) h ls (lv_sub hl [0, 1, 2, 3, 4, 5] rfl)
    replace h := md_f c16 h
    refine lv_iconst (v := 2) hx hb dX7_turnedOf_89 (by decide) ?_
    refine lv_goto (tgt := 106) hx hb dX7_turnedOf_90 (by decide) ?_
    exact KJ106 (2 : Int32) h ls (lv_sub hl [0, 1, 2, 3, 4, 5] rfl)
def mX7_turnedOf (p1 : Int64) : Option Int64 := (Option.bind (mX7_sixtyOf p1) (fun u1 => (Option.bind (mX7_times u1 (2 : Int32)) (fun u2 => (Option.bind (mX7_times u1 (3 : Int32)) (fun u3 => (Option.bind (mX7_times u1 (5 : Int32)) (fun u4 => (md_let ((u2 + (1 : Int32)) / (2 : Int32)) (fun (x7_5 : Int32) => (md_jn (fun (z0_48 : Int32) => (md_jn (fun (z0_64 : Int32) => (mlX7_turnedOf_72 u2 u3 u4 z0_64 (fun (y8_231 : Int64) => (some y8_231)) kN (1 : Int64) (0 : Int32))) (fun kJ64 => (if u4 ≤ z0_48 then (kJ64 z0_48) else (kJ64 u4))))) (fun kJ48 => (if u3 ≤ x7_5 then (kJ48 x7_5) else (kJ48 u3))))))))))))))
set_option maxHeartbeats 4000000 in
set_option maxRecDepth 100000 in
theorem bX7_turnedOf {p : Program} {l : Launch} {e : Env} {s : State} {m : MethodId} {args : Array Value} {below : List Frame} {meth : Method} {c : Code} {Q : State → Prop} (C : kc p s m args meth c cX7_turnedOf 13 RX7 yX7_turnedOf.name wsX7_turnedOf (some .long)) (p1 : Int64) (res : Int64) (hQ : ∀ (v : Int64) (pc : Nat) (ls : Array Slot), some v = some res → decode cX7_turnedOf pc = .ok (.lreturn, 1) → W p l e rmX7_turnedOf s m args below meth c s.heap [] 0 0 Q (F0 m pc ls [.long v])) : mX7_turnedOf p1 = some res → ∀ (ls : Array Slot), lv_has ls 13 [(0, .long p1)] → W p l e rmX7_turnedOf s m args below meth c s.heap [] 0 0 Q (F0 m 0 ls []) := by
  intro h ls hl
  have C0 := C
  obtain ⟨hx, hb, hml, hown, hts, hr, hlk, hnm⟩ := C0
  rw [mX7_turnedOf] at h
  refine lv_lload_n hx hb dX7_turnedOf_0 rfl (lv_at hl 0 rfl) ?_
  obtain ⟨u1, hu1, h⟩ := md_b h
  refine kS C (ctX7_sixtyOf l  hu1) gX7_turnedOf_X7_sixtyOf rfl kdX7_sixtyOf ⟨rfl, rfl⟩ ⟨by decide, by decide⟩ kT_blind (fun _ _ _ => trivial) rfl hl [] rfl (Nat.le_of_ble_eq_true rfl) dX7_turnedOf_1 ⟨by decide, by decide⟩ ?_
  refine lv_lstore_n (lv' := [(2, .long u1), (0, .long p1)]) hx hb dX7_turnedOf_4 rfl hl (by decide) rfl (fun ls hl => ?_)
  refine lv_lload_n hx hb dX7_turnedOf_5 rfl (lv_at hl 0 rfl) ?_
  refine lv_iconst (v := 2) hx hb dX7_turnedOf_6 (by decide) ?_
  obtain ⟨u2, hu2, h⟩ := md_b h
  refine kS C (ctX7_times l  hu2) gX7_turnedOf_X7_times rfl kdX7_times ⟨rfl, rfl⟩ ⟨by decide, by decide⟩ kT_blind (fun _ _ _ => trivial) rfl hl [] rfl (Nat.le_of_ble_eq_true rfl) dX7_turnedOf_7 ⟨by decide, by decide⟩ ?_
  refine lv_istore (lv' := [(4, .int u2), (2, .long u1), (0, .long p1)]) hx hb dX7_turnedOf_10 hl (by decide) rfl (fun ls hl => ?_)
  refine lv_lload_n hx hb dX7_turnedOf_12 rfl (lv_at hl 1 rfl) ?_
  refine lv_iconst (v := 3) hx hb dX7_turnedOf_13 (by decide) ?_
  obtain ⟨u3, hu3, h⟩ := md_b h
  refine kS C (ctX7_times l  hu3) gX7_turnedOf_X7_times rfl kdX7_times ⟨rfl, rfl⟩ ⟨by decide, by decide⟩ kT_blind (fun _ _ _ => trivial) rfl hl [] rfl (Nat.le_of_ble_eq_true rfl) dX7_turnedOf_14 ⟨by decide, by decide⟩ ?_
  refine lv_istore (lv' := [(5, .int u3), (4, .int u2), (2, .long u1), (0, .long p1)]) hx hb dX7_turnedOf_17 hl (by decide) rfl (fun ls hl => ?_)
  refine lv_lload_n hx hb dX7_turnedOf_19 rfl (lv_at hl 2 rfl) ?_
  refine lv_iconst (v := 5) hx hb dX7_turnedOf_20 (by decide) ?_
  obtain ⟨u4, hu4, h⟩ := md_b h
  refine kS C (ctX7_times l  hu4) gX7_turnedOf_X7_times rfl kdX7_times ⟨rfl, rfl⟩ ⟨by decide, by decide⟩ kT_blind (fun _ _ _ => trivial) rfl hl [] rfl (Nat.le_of_ble_eq_true rfl) dX7_turnedOf_21 ⟨by decide, by decide⟩ ?_
  refine lv_istore (lv' := [(6, .int u4), (5, .int u3), (4, .int u2), (2, .long u1), (0, .long p1)]) hx hb dX7_turnedOf_24 hl (by decide) rfl (fun ls hl => ?_)
  refine lv_iload hx hb dX7_turnedOf_26 (lv_at hl 2 rfl) ?_
  refine lv_iconst (v := 1) hx hb dX7_turnedOf_28 (by decide) ?_
  refine lv_iadd hx hb dX7_turnedOf_29 ?_
  refine lv_iconst (v := 2) hx hb dX7_turnedOf_30 (by decide) ?_
  refine lv_idiv hx hb dX7_turnedOf_31 (by decide) ?_
  refine lv_topi (fun x7_5 ex7_5 => ?_)
  replace h := md_le ex7_5 h
  refine lv_istore (lv' := [(7, .int x7_5), (6, .int u4), (5, .int u3), (4, .int u2), (2, .long u1), (0, .long p1)]) hx hb dX7_turnedOf_32 hl (by decide) rfl (fun ls hl => ?_)
  refine lv_iload hx hb dX7_turnedOf_34 (lv_at hl 2 rfl) ?_
  refine lv_iload hx hb dX7_turnedOf_36 (lv_at hl 0 rfl) ?_
  obtain ⟨kJ48, ekJ48, h⟩ := md_jo h
  have KJ48 : ∀ (z0_48 : Int32), kJ48 z0_48 = some res → ∀ (ls : Array Slot), lv_has ls 13 [(4, .int u2), (5, .int u3), (6, .int u4)] → W p l e rmX7_turnedOf s m args below meth c s.heap [] 0 0 Q (F0 m 48 ls [.int z0_48]) := by
    intro z0_48 h ls hl
    rw [ekJ48] at h
    refine lv_istore (lv' := [(7, .int z0_48), (4, .int u2), (5, .int u3), (6, .int u4)]) hx hb dX7_turnedOf_48 hl (by decide) rfl (fun ls hl => ?_)
    refine lv_iload hx hb dX7_turnedOf_50 (lv_at hl 3 rfl) ?_
    refine lv_iload hx hb dX7_turnedOf_52 (lv_at hl 0 rfl) ?_
    obtain ⟨kJ64, ekJ64, h⟩ := md_jo h
    have KJ64 : ∀ (z0_64 : Int32), kJ64 z0_64 = some res → ∀ (ls : Array Slot), lv_has ls 13 [(4, .int u2), (5, .int u3), (6, .int u4)] → W p l e rmX7_turnedOf s m args below meth c s.heap [] 0 0 Q (F0 m 64 ls [.int z0_64]) := by
      intro z0_64 h ls hl
      rw [ekJ64] at h
      refine lv_istore (lv' := [(7, .int z0_64), (4, .int u2), (5, .int u3), (6, .int u4)]) hx hb dX7_turnedOf_64 hl (by decide) rfl (fun ls hl => ?_)
      refine lv_lconst (v := 1) hx hb dX7_turnedOf_66 (by decide) ?_
      refine lv_lstore (lv' := [(8, .long (1 : Int64)), (7, .int z0_64), (4, .int u2), (5, .int u3), (6, .int u4)]) hx hb dX7_turnedOf_67 hl (by decide) rfl (fun ls hl => ?_)
      refine lv_iconst (v := 0) hx hb dX7_turnedOf_69 (by decide) ?_
      refine lv_istore (lv' := [(10, .int (0 : Int32)), (8, .long (1 : Int64)), (7, .int z0_64), (4, .int u2), (5, .int u3), (6, .int u4)]) hx hb dX7_turnedOf_70 hl (by decide) rfl (fun ls hl => ?_)
      refine lX7_turnedOf_72 C u2 u3 u4 z0_64 res hQ _ (fun y8_231 h ls hl => ?_) kN (1 : Int64) (0 : Int32) h ls (lv_sub hl [3, 4, 5, 2, 1, 0] rfl)
      refine lv_lload hx hb dX7_turnedOf_231 (lv_at hl 0 rfl) ?_
      exact hQ y8_231 233 ls h dX7_turnedOf_233
    clear ekJ64
    refine lv_icmp_le (tgt := 62) hx hb dX7_turnedOf_54 (by decide) (fun c18 => ?_) (fun c18 => ?_)
    · replace h := md_t c18 h
      refine lv_iload hx hb dX7_turnedOf_62 (lv_at hl 0 rfl) ?_
      exact KJ64 z0_48 h ls (lv_sub hl [1, 2, 3] rfl)
    replace h := md_f c18 h
    refine lv_iload hx hb dX7_turnedOf_57 (lv_at hl 3 rfl) ?_
    refine lv_goto (tgt := 64) hx hb dX7_turnedOf_59 (by decide) ?_
    exact KJ64 u4 h ls (lv_sub hl [1, 2, 3] rfl)
  clear ekJ48
  refine lv_icmp_le (tgt := 46) hx hb dX7_turnedOf_38 (by decide) (fun c19 => ?_) (fun c19 => ?_)
  · replace h := md_t c19 h
    refine lv_iload hx hb dX7_turnedOf_46 (lv_at hl 0 rfl) ?_
    exact KJ48 x7_5 h ls (lv_sub hl [3, 2, 1] rfl)
  replace h := md_f c19 h
  refine lv_iload hx hb dX7_turnedOf_41 (lv_at hl 2 rfl) ?_
  refine lv_goto (tgt := 48) hx hb dX7_turnedOf_43 (by decide) ?_
  exact KJ48 u3 h ls (lv_sub hl [3, 2, 1] rfl)
set_option maxHeartbeats 4000000 in
theorem ctX7_turnedOf (l : Launch) {p1 : Int64} {res : Int64} (hm : mX7_turnedOf p1 = some res) : Met l yX7_turnedOf wsX7_turnedOf rmX7_turnedOf (va_Pc [.long p1] (fun _ => True)) (kR (.long res)) 0 0 (fun _ => False) :=
  km (by decide) rfl (Nat.le_of_ble_eq_true rfl) (fun p e s m below meth c ls C hB hl => bX7_turnedOf C p1 res (fun v pc ls h hd => kr_l C h hd) hm ls hl)
theorem wm_X7_turned_0 : Cond.constantLong RX7 86 (-1000000000000000004) ∈ wsX7_turned := by decide +kernel
theorem wm_X7_turned_1 : Cond.constantLong RX7 94 (-1000000000000000005) ∈ wsX7_turned := by decide +kernel
theorem wm_X7_turned_2 : Cond.constantLong RX7 57 (-1000000000000000002) ∈ wsX7_turned := by decide +kernel
theorem kdvX7_turned : yX7_turned.cls = RX7 ∧ yX7_turned.cls ≠ "java/lang/invoke/MethodHandle" ∧ yX7_turned.cls ≠ "java/lang/invoke/VarHandle" ∧ (parseMethodDescriptor yX7_turned.desc).map (fun d => d.parameters.length) = some 1 := by decide +kernel
abbrev rmX7_turned : Room := { frames := 2, cells := 0, slots := 0, locals := 57 }
def mX7_turned (p1 : Int64) : Option Int64 := (Option.bind (mX7_isGiven p1) (fun u1 => (if u1 = 0 then (some (-1000000000000000002 : Int64)) else (Option.bind (mX7_isEven p1) (fun u3 => (if u3 = 0 then (some (-1000000000000000005 : Int64)) else (Option.bind (mX7_turnedOf p1) (fun u5 => (if (0 : Int64) ≤ u5 then (some u5) else (some (-1000000000000000004 : Int64)))))))))))
set_option maxHeartbeats 4000000 in
set_option maxRecDepth 100000 in
theorem bX7_turned {p : Program} {l : Launch} {e : Env} {s : State} {m : MethodId} {args : Array Value} {below : List Frame} {meth : Method} {c : Code} {Q : State → Prop} (C : kc p s m args meth c cX7_turned 5 RX7 yX7_turned.name wsX7_turned (some .long)) {mo : Nat} (p1 : Int64) (res : Int64) (hQ : ∀ (v : Int64) (pc : Nat) (ls : Array Slot), some v = some res → decode cX7_turned pc = .ok (.lreturn, 1) → W p l e rmX7_turned s m args below meth c s.heap [] 0 0 Q (F0 m pc ls [.long v])) : mX7_turned p1 = some res → ∀ (ls : Array Slot), lv_has ls 5 [(0, .ref mo), (1, .long p1)] → W p l e rmX7_turned s m args below meth c s.heap [] 0 0 Q (F0 m 0 ls []) := by
  intro h ls hl
  have C0 := C
  obtain ⟨hx, hb, hml, hown, hts, hr, hlk, hnm⟩ := C0
  rw [mX7_turned] at h
  refine lv_lload_n hx hb dX7_turned_0 rfl (lv_at hl 1 rfl) ?_
  obtain ⟨u1, hu1, h⟩ := md_b h
  refine kS C (ctX7_isGiven l  hu1) gX7_turned_X7_isGiven rfl kdX7_isGiven ⟨rfl, rfl⟩ ⟨by decide, by decide⟩ kT_blind (fun _ _ _ => trivial) rfl hl [] rfl (Nat.le_of_ble_eq_true rfl) dX7_turned_1 ⟨by decide, by decide⟩ ?_
  refine lv_if_ne (tgt := 11) hx hb dX7_turned_4 (by decide) (fun c2 => ?_) (fun c2 => ?_)
  · replace h := md_f c2 h
    refine lv_lload_n hx hb dX7_turned_11 rfl (lv_at hl 1 rfl) ?_
    obtain ⟨u3, hu3, h⟩ := md_b h
    refine kS C (ctX7_isEven l  hu3) gX7_turned_X7_isEven rfl kdX7_isEven ⟨rfl, rfl⟩ ⟨by decide, by decide⟩ kT_blind (fun _ _ _ => trivial) rfl hl [] rfl (Nat.le_of_ble_eq_true rfl) dX7_turned_12 ⟨by decide, by decide⟩ ?_
    refine lv_if_ne (tgt := 22) hx hb dX7_turned_15 (by decide) (fun c4 => ?_) (fun c4 => ?_)
    · replace h := md_f c4 h
      refine lv_lload_n hx hb dX7_turned_22 rfl (lv_at hl 1 rfl) ?_
      obtain ⟨u5, hu5, h⟩ := md_b h
      refine kS C (ctX7_turnedOf l  hu5) gX7_turned_X7_turnedOf rfl kdX7_turnedOf ⟨rfl, rfl⟩ ⟨by decide, by decide⟩ kT_blind (fun _ _ _ => trivial) rfl hl [] rfl (Nat.le_of_ble_eq_true rfl) dX7_turned_23 ⟨by decide, by decide⟩ ?_
      refine lv_lstore_n (lv' := [(3, .long u5), (0, .ref mo), (1, .long p1)]) hx hb dX7_turned_26 rfl hl (by decide) rfl (fun ls hl => ?_)
      refine lv_lload_n hx hb dX7_turned_27 rfl (lv_at hl 0 rfl) ?_
      refine lv_lconst (v := 0) hx hb dX7_turned_28 (by decide) ?_
      refine W.lcmp hx hb dX7_turned_29 ?_
      refine lv_if_ge (tgt := 39) hx hb dX7_turned_30 (by decide) (fun c6 => ?_) (fun c6 => ?_)
      · replace c6 := (lg_cmp_ge _ _).mp c6
        replace h := md_t c6 h
        refine lv_lload_n hx hb dX7_turned_39 rfl (lv_at hl 0 rfl) ?_
        exact hQ u5 40 ls h dX7_turned_40
      replace c6 := fun q9 => c6 ((lg_cmp_ge _ _).mpr q9)
      replace h := md_f c6 h
      refine lv_ldc2 hx hb hown (hts _ wm_X7_turned_0) dX7_turned_33 ?_
      refine lv_goto (tgt := 40) hx hb dX7_turned_36 (by decide) ?_
      exact hQ (-1000000000000000004 : Int64) 40 ls h dX7_turned_40
    replace h := md_t c4 h
    refine lv_ldc2 hx hb hown (hts _ wm_X7_turned_1) dX7_turned_18 ?_
    exact hQ (-1000000000000000005 : Int64) 21 ls h dX7_turned_21
  replace h := md_t c2 h
  refine lv_ldc2 hx hb hown (hts _ wm_X7_turned_2) dX7_turned_7 ?_
  exact hQ (-1000000000000000002 : Int64) 10 ls h dX7_turned_10
set_option maxHeartbeats 4000000 in
theorem ctX7_turned (l : Launch) {mo : Nat} {p1 : Int64} {res : Int64} (hm : mX7_turned p1 = some res) : Met l yX7_turned wsX7_turned rmX7_turned (va_Pc [.ref mo, .long p1] (fun _ => True)) (kR (.long res)) 0 0 (fun _ => False) :=
  km (by decide) rfl (Nat.le_of_ble_eq_true rfl) (fun p e s m below meth c ls C hB hl => bX7_turned C p1 res (fun v pc ls h hd => kr_l C h hd) hm ls hl)
theorem wm_X7_isListed_0 : Cond.constantLong RX7 99 (2) ∈ wsX7_isListed := by decide +kernel
theorem wm_X7_isListed_1 : Cond.constantLong RX7 101 (81) ∈ wsX7_isListed := by decide +kernel
theorem wm_X7_isListed_2 : Cond.constantLong RX7 43 (60) ∈ wsX7_isListed := by decide +kernel
theorem kdX7_isListed : yX7_isListed.cls ≠ "java/lang/invoke/MethodHandle" ∧ yX7_isListed.cls ≠ "java/lang/invoke/VarHandle" ∧ (parseMethodDescriptor yX7_isListed.desc).map (fun d => d.parameters.length) = some 1 := by decide +kernel
abbrev rmX7_isListed : Room := { frames := 1, cells := 0, slots := 0, locals := 25 }
def mX7_isListed (p1 : Int64) : Option Int32 := (Option.bind (mX7_in p1 (2 : Int64) (81 : Int64)) (fun u1 => (if u1 = 0 then (some (0 : Int32)) else (if p1 = (60 : Int64) then (some (0 : Int32)) else (Option.bind (mX7_isEven p1) (fun u4 => (if u4 = 0 then (some (0 : Int32)) else (some (1 : Int32)))))))))
set_option maxHeartbeats 4000000 in
set_option maxRecDepth 100000 in
theorem bX7_isListed {p : Program} {l : Launch} {e : Env} {s : State} {m : MethodId} {args : Array Value} {below : List Frame} {meth : Method} {c : Code} {Q : State → Prop} (C : kc p s m args meth c cX7_isListed 2 RX7 yX7_isListed.name wsX7_isListed (some .boolean)) (p1 : Int64) (res : Int32) (hQ : ∀ (v : Int32) (pc : Nat) (ls : Array Slot), v = 0 ∨ v = 1 → some v = some res → decode cX7_isListed pc = .ok (.ireturn, 1) → W p l e rmX7_isListed s m args below meth c s.heap [] 0 0 Q (F0 m pc ls [.int v])) : mX7_isListed p1 = some res → ∀ (ls : Array Slot), lv_has ls 2 [(0, .long p1)] → W p l e rmX7_isListed s m args below meth c s.heap [] 0 0 Q (F0 m 0 ls []) := by
  intro h ls hl
  have C0 := C
  obtain ⟨hx, hb, hml, hown, hts, hr, hlk, hnm⟩ := C0
  rw [mX7_isListed] at h
  refine lv_lload_n hx hb dX7_isListed_0 rfl (lv_at hl 0 rfl) ?_
  refine lv_ldc2 hx hb hown (hts _ wm_X7_isListed_0) dX7_isListed_1 ?_
  refine lv_ldc2 hx hb hown (hts _ wm_X7_isListed_1) dX7_isListed_4 ?_
  obtain ⟨u1, hu1, h⟩ := md_b h
  refine kS C (ctX7_in l  hu1) gX7_isListed_X7_in rfl kdX7_in ⟨rfl, rfl⟩ ⟨by decide, by decide⟩ kT_blind (fun _ _ _ => trivial) rfl hl [] rfl (Nat.le_of_ble_eq_true rfl) dX7_isListed_7 ⟨by decide, by decide⟩ ?_
  refine lv_if_eq (tgt := 32) hx hb dX7_isListed_10 (by decide) (fun c2 => ?_) (fun c2 => ?_)
  · replace h := md_t c2 h
    refine lv_iconst (v := 0) hx hb dX7_isListed_32 (by decide) ?_
    exact hQ (0 : Int32) 33 ls (by decide) h dX7_isListed_33
  replace h := md_f c2 h
  refine lv_lload_n hx hb dX7_isListed_13 rfl (lv_at hl 0 rfl) ?_
  refine lv_ldc2 hx hb hown (hts _ wm_X7_isListed_2) dX7_isListed_14 ?_
  refine W.lcmp hx hb dX7_isListed_17 ?_
  refine lv_if_eq (tgt := 32) hx hb dX7_isListed_18 (by decide) (fun c3 => ?_) (fun c3 => ?_)
  · replace c3 := (lg_cmp_eq _ _).mp c3
    replace h := md_t c3 h
    refine lv_iconst (v := 0) hx hb dX7_isListed_32 (by decide) ?_
    exact hQ (0 : Int32) 33 ls (by decide) h dX7_isListed_33
  replace c3 := fun q9 => c3 ((lg_cmp_eq _ _).mpr q9)
  replace h := md_f c3 h
  refine lv_lload_n hx hb dX7_isListed_21 rfl (lv_at hl 0 rfl) ?_
  obtain ⟨u4, hu4, h⟩ := md_b h
  refine kS C (ctX7_isEven l  hu4) gX7_isListed_X7_isEven rfl kdX7_isEven ⟨rfl, rfl⟩ ⟨by decide, by decide⟩ kT_blind (fun _ _ _ => trivial) rfl hl [] rfl (Nat.le_of_ble_eq_true rfl) dX7_isListed_22 ⟨by decide, by decide⟩ ?_
  refine lv_if_eq (tgt := 32) hx hb dX7_isListed_25 (by decide) (fun c5 => ?_) (fun c5 => ?_)
  · replace h := md_t c5 h
    refine lv_iconst (v := 0) hx hb dX7_isListed_32 (by decide) ?_
    exact hQ (0 : Int32) 33 ls (by decide) h dX7_isListed_33
  replace h := md_f c5 h
  refine lv_iconst (v := 1) hx hb dX7_isListed_28 (by decide) ?_
  refine lv_goto (tgt := 33) hx hb dX7_isListed_29 (by decide) ?_
  exact hQ (1 : Int32) 33 ls (by decide) h dX7_isListed_33
set_option maxHeartbeats 4000000 in
theorem ctX7_isListed (l : Launch) {p1 : Int64} {res : Int32} (hm : mX7_isListed p1 = some res) : Met l yX7_isListed wsX7_isListed rmX7_isListed (va_Pc [.long p1] (fun _ => True)) (kR (.int res)) 0 0 (fun _ => False) :=
  km (by decide) rfl (Nat.le_of_ble_eq_true rfl) (fun p e s m below meth c ls C hB hl => bX7_isListed C p1 res (fun v pc ls hz h hd => kr_z C hz h hd) hm ls hl)
theorem kdX7_listAt : yX7_listAt.cls ≠ "java/lang/invoke/MethodHandle" ∧ yX7_listAt.cls ≠ "java/lang/invoke/VarHandle" ∧ (parseMethodDescriptor yX7_listAt.desc).map (fun d => d.parameters.length) = some 1 := by decide +kernel
abbrev rmX7_listAt : Room := { frames := 2, cells := 0, slots := 0, locals := 46 }
def mlX7_listAt_4 (x0 : Int32) (kE : Int32 → Option Int32) : Nat → Int32 → Int32 → Option Int32
  | 0, _, _ => none
  | n + 1, x1, x2 => (if (82 : Int32) ≤ x2 then (kE x1) else (Option.bind (mX7_isListed (Int32.toInt64 x2)) (fun u2 => (md_jn (fun (x1_28 : Int32) => (md_let (x2 + (1 : Int32)) (fun (x2_3 : Int32) => (mlX7_listAt_4 x0 kE n x1_28 x2_3)))) (fun kJ28 => (if u2 = 0 then (kJ28 x1) else (if x1 = x0 then (some x2) else (md_let (x1 + (1 : Int32)) (fun (x1_6 : Int32) => (kJ28 x1_6))))))))))
set_option maxHeartbeats 4000000 in
set_option maxRecDepth 100000 in
theorem lX7_listAt_4 {p : Program} {l : Launch} {e : Env} {s : State} {m : MethodId} {args : Array Value} {below : List Frame} {meth : Method} {c : Code} {Q : State → Prop} (C : kc p s m args meth c cX7_listAt 3 RX7 yX7_listAt.name wsX7_listAt (some .int)) (x0 : Int32) (res : Int32) (hQ : ∀ (v : Int32) (pc : Nat) (ls : Array Slot), some v = some res → decode cX7_listAt pc = .ok (.ireturn, 1) → W p l e rmX7_listAt s m args below meth c s.heap [] 0 0 Q (F0 m pc ls [.int v])) (kE : Int32 → Option Int32) (hE : ∀ (y1 : Int32), kE y1 = some res → ∀ (ls : Array Slot), lv_has ls 3 [(0, .int x0), (1, .int y1)] → W p l e rmX7_listAt s m args below meth c s.heap [] 0 0 Q (F0 m 34 ls [])) : ∀ (n : Nat), ∀ (x1 : Int32) (x2 : Int32), mlX7_listAt_4 x0 kE n x1 x2 = some res → ∀ (ls : Array Slot), lv_has ls 3 [(0, .int x0), (1, .int x1), (2, .int x2)] → W p l e rmX7_listAt s m args below meth c s.heap [] 0 0 Q (F0 m 4 ls []) := by
  have C0 := C
  obtain ⟨hx, hb, hml, hown, hts, hr, hlk, hnm⟩ := C0
  intro n
  induction n with
  | zero => intro _ _ h; exact md_x h
  | succ n ih =>
    intro x1 x2 h ls hl
    rw [mlX7_listAt_4] at h
    refine lv_iload_n hx hb dX7_listAt_4 rfl (lv_at hl 2 rfl) ?_
    refine lv_bipush (v := 82) hx hb dX7_listAt_5 (by decide) ?_
    refine lv_icmp_ge (tgt := 34) hx hb dX7_listAt_7 (by decide) (fun c1 => ?_) (fun c1 => ?_)
    · replace h := md_t c1 h
      exact hE x1 h ls (lv_sub hl [0, 1] rfl)
    replace h := md_f c1 h
    refine lv_iload_n hx hb dX7_listAt_10 rfl (lv_at hl 2 rfl) ?_
    refine lv_i2l hx hb dX7_listAt_11 rfl ?_
    obtain ⟨u2, hu2, h⟩ := md_b h
    refine kS C (ctX7_isListed l  hu2) gX7_listAt_X7_isListed rfl kdX7_isListed ⟨rfl, rfl⟩ ⟨by decide, by decide⟩ kT_blind (fun _ _ _ => trivial) rfl hl [] rfl (Nat.le_of_ble_eq_true rfl) dX7_listAt_12 ⟨by decide, by decide⟩ ?_
    obtain ⟨kJ28, ekJ28, h⟩ := md_jo h
    have KJ28 : ∀ (x1_28 : Int32), kJ28 x1_28 = some res → ∀ (ls : Array Slot), lv_has ls 3 [(0, .int x0), (1, .int x1_28), (2, .int x2)] → W p l e rmX7_listAt s m args below meth c s.heap [] 0 0 Q (F0 m 28 ls []) := by
      intro x1_28 h ls hl
      rw [ekJ28] at h
      obtain ⟨x2_3, ex2_3⟩ : ∃ y : Int32, y = (x2 + (1 : Int32)) := ⟨_, rfl⟩
      replace h := md_le ex2_3 h
      refine lv_iinc (v := x2_3) (lv' := [(2, .int x2_3), (0, .int x0), (1, .int x1_28)]) hx hb dX7_listAt_28 hl (k := 2) rfl (by rw [ex2_3]; rfl) (by decide) rfl (fun ls hl => ?_)
      refine lv_goto (tgt := 4) hx hb dX7_listAt_31 (by decide) ?_
      exact ih x1_28 x2_3 h ls (lv_sub hl [1, 2, 0] rfl)
    clear ekJ28
    refine lv_if_eq (tgt := 28) hx hb dX7_listAt_15 (by decide) (fun c4 => ?_) (fun c4 => ?_)
    · replace h := md_t c4 h
      exact KJ28 x1 h ls (lv_sub hl [0, 1, 2] rfl)
    replace h := md_f c4 h
    refine lv_iload_n hx hb dX7_listAt_18 rfl (lv_at hl 1 rfl) ?_
    refine lv_iload_n hx hb dX7_listAt_19 rfl (lv_at hl 0 rfl) ?_
    refine lv_icmp_ne (tgt := 25) hx hb dX7_listAt_20 (by decide) (fun c5 => ?_) (fun c5 => ?_)
    · replace h := md_f c5 h
      obtain ⟨x1_6, ex1_6⟩ : ∃ y : Int32, y = (x1 + (1 : Int32)) := ⟨_, rfl⟩
      replace h := md_le ex1_6 h
      refine lv_iinc (v := x1_6) (lv' := [(1, .int x1_6), (0, .int x0), (2, .int x2)]) hx hb dX7_listAt_25 hl (k := 1) rfl (by rw [ex1_6]; rfl) (by decide) rfl (fun ls hl => ?_)
      exact KJ28 x1_6 h ls (lv_sub hl [1, 0, 2] rfl)
    replace h := md_t c5 h
    refine lv_iload_n hx hb dX7_listAt_23 rfl (lv_at hl 2 rfl) ?_
    exact hQ x2 24 ls h dX7_listAt_24
def mX7_listAt (p1 : Int32) : Option Int32 := (mlX7_listAt_4 p1 (fun (y1_34 : Int32) => (if p1 = (-1 : Int32) then (some y1_34) else (some (-1 : Int32)))) kN (0 : Int32) (2 : Int32))
set_option maxHeartbeats 4000000 in
set_option maxRecDepth 100000 in
theorem bX7_listAt {p : Program} {l : Launch} {e : Env} {s : State} {m : MethodId} {args : Array Value} {below : List Frame} {meth : Method} {c : Code} {Q : State → Prop} (C : kc p s m args meth c cX7_listAt 3 RX7 yX7_listAt.name wsX7_listAt (some .int)) (p1 : Int32) (res : Int32) (hQ : ∀ (v : Int32) (pc : Nat) (ls : Array Slot), some v = some res → decode cX7_listAt pc = .ok (.ireturn, 1) → W p l e rmX7_listAt s m args below meth c s.heap [] 0 0 Q (F0 m pc ls [.int v])) : mX7_listAt p1 = some res → ∀ (ls : Array Slot), lv_has ls 3 [(0, .int p1)] → W p l e rmX7_listAt s m args below meth c s.heap [] 0 0 Q (F0 m 0 ls []) := by
  intro h ls hl
  have C0 := C
  obtain ⟨hx, hb, hml, hown, hts, hr, hlk, hnm⟩ := C0
  rw [mX7_listAt] at h
  refine lv_iconst (v := 0) hx hb dX7_listAt_0 (by decide) ?_
  refine lv_istore_n (lv' := [(1, .int (0 : Int32)), (0, .int p1)]) hx hb dX7_listAt_1 rfl hl (by decide) rfl (fun ls hl => ?_)
  refine lv_iconst (v := 2) hx hb dX7_listAt_2 (by decide) ?_
  refine lv_istore_n (lv' := [(2, .int (2 : Int32)), (1, .int (0 : Int32)), (0, .int p1)]) hx hb dX7_listAt_3 rfl hl (by decide) rfl (fun ls hl => ?_)
  refine lX7_listAt_4 C p1 res hQ _ (fun y1_34 h ls hl => ?_) kN (0 : Int32) (2 : Int32) h ls (lv_sub hl [2, 1, 0] rfl)
  refine lv_iload_n hx hb dX7_listAt_34 rfl (lv_at hl 0 rfl) ?_
  refine lv_iconst (v := -1) hx hb dX7_listAt_35 (by decide) ?_
  refine lv_icmp_ne (tgt := 43) hx hb dX7_listAt_36 (by decide) (fun c7 => ?_) (fun c7 => ?_)
  · replace h := md_f c7 h
    refine lv_iconst (v := -1) hx hb dX7_listAt_43 (by decide) ?_
    exact hQ (-1 : Int32) 44 ls h dX7_listAt_44
  replace h := md_t c7 h
  refine lv_iload_n hx hb dX7_listAt_39 rfl (lv_at hl 1 rfl) ?_
  refine lv_goto (tgt := 44) hx hb dX7_listAt_40 (by decide) ?_
  exact hQ y1_34 44 ls h dX7_listAt_44
set_option maxHeartbeats 4000000 in
theorem ctX7_listAt (l : Launch) {p1 : Int32} {res : Int32} (hm : mX7_listAt p1 = some res) : Met l yX7_listAt wsX7_listAt rmX7_listAt (va_Pc [.int p1] (fun _ => True)) (kR (.int res)) 0 0 (fun _ => False) :=
  km (by decide) rfl (Nat.le_of_ble_eq_true rfl) (fun p e s m below meth c ls C hB hl => bX7_listAt C p1 res (fun v pc ls h hd => kr_i C h hd) hm ls hl)
theorem kdvX7_list : yX7_list.cls = RX7 ∧ yX7_list.cls ≠ "java/lang/invoke/MethodHandle" ∧ yX7_list.cls ≠ "java/lang/invoke/VarHandle" ∧ (parseMethodDescriptor yX7_list.desc).map (fun d => d.parameters.length) = some 1 := by decide +kernel
abbrev rmX7_list : Room := { frames := 3, cells := 0, slots := 0, locals := 68 }
def mX7_list (p1 : Int32) : Option Int32 := (Option.bind (mX7_listAt p1) (fun u1 => (some u1)))
set_option maxHeartbeats 4000000 in
set_option maxRecDepth 100000 in
theorem bX7_list {p : Program} {l : Launch} {e : Env} {s : State} {m : MethodId} {args : Array Value} {below : List Frame} {meth : Method} {c : Code} {Q : State → Prop} (C : kc p s m args meth c cX7_list 2 RX7 yX7_list.name wsX7_list (some .int)) {mo : Nat} (p1 : Int32) (res : Int32) (hQ : ∀ (v : Int32) (pc : Nat) (ls : Array Slot), some v = some res → decode cX7_list pc = .ok (.ireturn, 1) → W p l e rmX7_list s m args below meth c s.heap [] 0 0 Q (F0 m pc ls [.int v])) : mX7_list p1 = some res → ∀ (ls : Array Slot), lv_has ls 2 [(0, .ref mo), (1, .int p1)] → W p l e rmX7_list s m args below meth c s.heap [] 0 0 Q (F0 m 0 ls []) := by
  intro h ls hl
  have C0 := C
  obtain ⟨hx, hb, hml, hown, hts, hr, hlk, hnm⟩ := C0
  rw [mX7_list] at h
  refine lv_iload_n hx hb dX7_list_0 rfl (lv_at hl 1 rfl) ?_
  obtain ⟨u1, hu1, h⟩ := md_b h
  refine kS C (ctX7_listAt l  hu1) gX7_list_X7_listAt rfl kdX7_listAt ⟨rfl, rfl⟩ ⟨by decide, by decide⟩ kT_blind (fun _ _ _ => trivial) rfl hl [] rfl (Nat.le_of_ble_eq_true rfl) dX7_list_1 ⟨by decide, by decide⟩ ?_
  exact hQ u1 4 ls h dX7_list_4
set_option maxHeartbeats 4000000 in
theorem ctX7_list (l : Launch) {mo : Nat} {p1 : Int32} {res : Int32} (hm : mX7_list p1 = some res) : Met l yX7_list wsX7_list rmX7_list (va_Pc [.ref mo, .int p1] (fun _ => True)) (kR (.int res)) 0 0 (fun _ => False) :=
  km (by decide) rfl (Nat.le_of_ble_eq_true rfl) (fun p e s m below meth c ls C hB hl => bX7_list C p1 res (fun v pc ls h hd => kr_i C h hd) hm ls hl)
theorem kdvX7_factor : yX7_factor.cls = RX7 ∧ yX7_factor.cls ≠ "java/lang/invoke/MethodHandle" ∧ yX7_factor.cls ≠ "java/lang/invoke/VarHandle" ∧ (parseMethodDescriptor yX7_factor.desc).map (fun d => d.parameters.length) = some 2 := by decide +kernel
abbrev rmX7_factor : Room := { frames := 2, cells := 0, slots := 0, locals := 46 }
def mlX7_factor_40 (x4 : Int64) (kE : Int32 → Option Int32) : Nat → Int32 → Option Int32
  | 0, _ => none
  | n + 1, x7 => (Option.bind (mX7_isListed (Int32.toInt64 x7)) (fun u7 => (md_jn (fun (u_60 : Unit) => (md_let (x7 + (-1 : Int32)) (fun (x7_8 : Int32) => (mlX7_factor_40 x4 kE n x7_8)))) (fun kJ60 => (if u7 = 0 then (kJ60 ()) else (if (Int32.toInt64 x7) = 0 then none else (if (x4 - x4 / (Int32.toInt64 x7) * (Int32.toInt64 x7)) = (0 : Int64) then (kE x7) else (kJ60 ()))))))))
set_option maxHeartbeats 4000000 in
set_option maxRecDepth 100000 in
theorem lX7_factor_40 {p : Program} {l : Launch} {e : Env} {s : State} {m : MethodId} {args : Array Value} {below : List Frame} {meth : Method} {c : Code} {Q : State → Prop} (C : kc p s m args meth c cX7_factor 8 RX7 yX7_factor.name wsX7_factor (some .int)) {mo : Nat} (x3 : Int32) (x4 : Int64) (x6 : Int32) (res : Int32) (hQ : ∀ (v : Int32) (pc : Nat) (ls : Array Slot), some v = some res → decode cX7_factor pc = .ok (.ireturn, 1) → W p l e rmX7_factor s m args below meth c s.heap [] 0 0 Q (F0 m pc ls [.int v])) (kE : Int32 → Option Int32) (hE : ∀ (y7 : Int32), kE y7 = some res → ∀ (ls : Array Slot), lv_has ls 8 [(3, .int x3), (4, .long x4), (6, .int x6), (7, .int y7)] → W p l e rmX7_factor s m args below meth c s.heap [] 0 0 Q (F0 m 66 ls [])) : ∀ (n : Nat), ∀ (x7 : Int32), mlX7_factor_40 x4 kE n x7 = some res → ∀ (ls : Array Slot), lv_has ls 8 [(3, .int x3), (4, .long x4), (6, .int x6), (7, .int x7)] → W p l e rmX7_factor s m args below meth c s.heap [] 0 0 Q (F0 m 40 ls []) := by
  have C0 := C
  obtain ⟨hx, hb, hml, hown, hts, hr, hlk, hnm⟩ := C0
  intro n
  induction n with
  | zero => intro _ h; exact md_x h
  | succ n ih =>
    intro x7 h ls hl
    rw [mlX7_factor_40] at h
    refine lv_iload hx hb dX7_factor_40 (lv_at hl 3 rfl) ?_
    refine lv_i2l hx hb dX7_factor_42 rfl ?_
    obtain ⟨u7, hu7, h⟩ := md_b h
    refine kS C (ctX7_isListed l  hu7) gX7_factor_X7_isListed rfl kdX7_isListed ⟨rfl, rfl⟩ ⟨by decide, by decide⟩ kT_blind (fun _ _ _ => trivial) rfl hl [] rfl (Nat.le_of_ble_eq_true rfl) dX7_factor_43 ⟨by decide, by decide⟩ ?_
    obtain ⟨kJ60, ekJ60, h⟩ := md_jo h
    have KJ60 : ∀ (u_60 : Unit), kJ60 u_60 = some res → ∀ (ls : Array Slot), lv_has ls 8 [(3, .int x3), (4, .long x4), (6, .int x6), (7, .int x7)] → W p l e rmX7_factor s m args below meth c s.heap [] 0 0 Q (F0 m 60 ls []) := by
      intro u_60 h ls hl
      rw [ekJ60] at h
      obtain ⟨x7_8, ex7_8⟩ : ∃ y : Int32, y = (x7 + (-1 : Int32)) := ⟨_, rfl⟩
      replace h := md_le ex7_8 h
      refine lv_iinc (v := x7_8) (lv' := [(7, .int x7_8), (3, .int x3), (4, .long x4), (6, .int x6)]) hx hb dX7_factor_60 hl (k := 3) rfl (by rw [ex7_8]; rfl) (by decide) rfl (fun ls hl => ?_)
      refine lv_goto (tgt := 40) hx hb dX7_factor_63 (by decide) ?_
      exact ih x7_8 h ls (lv_sub hl [1, 2, 3, 0] rfl)
    clear ekJ60
    refine lv_if_eq (tgt := 60) hx hb dX7_factor_46 (by decide) (fun c9 => ?_) (fun c9 => ?_)
    · replace h := md_t c9 h
      exact KJ60 () h ls (lv_sub hl [0, 1, 2, 3] rfl)
    replace h := md_f c9 h
    refine lv_lload hx hb dX7_factor_49 (lv_at hl 1 rfl) ?_
    refine lv_iload hx hb dX7_factor_51 (lv_at hl 3 rfl) ?_
    refine lv_i2l hx hb dX7_factor_53 rfl ?_
    obtain ⟨hz10, h⟩ := md_g h
    refine lv_lrem hx hb dX7_factor_54 hz10 ?_
    refine lv_lconst (v := 0) hx hb dX7_factor_55 (by decide) ?_
    refine W.lcmp hx hb dX7_factor_56 ?_
    refine lv_if_eq (tgt := 66) hx hb dX7_factor_57 (by decide) (fun c11 => ?_) (fun c11 => ?_)
    · replace c11 := (lg_cmp_eq _ _).mp c11
      replace h := md_t c11 h
      exact hE x7 h ls (lv_sub hl [0, 1, 2, 3] rfl)
    replace c11 := fun q9 => c11 ((lg_cmp_eq _ _).mpr q9)
    replace h := md_f c11 h
    exact KJ60 () h ls (lv_sub hl [0, 1, 2, 3] rfl)
def mlX7_factor_29 (x3 : Int32) (kE : Int32 → Option Int32) : Nat → Int64 → Int32 → Option Int32
  | 0, _, _ => none
  | n + 1, x4, x6 => (if x4 = (1 : Int64) then (kE x6) else (mlX7_factor_40 x4 (fun (y7_66 : Int32) => (Option.bind (mX7_isListed x4) (fun u12 => (md_jn (fun (z0_82 : Int32) => (if x6 = x3 then (some z0_82) else (md_let (x6 + (1 : Int32)) (fun (x6_14 : Int32) => (if (Int32.toInt64 z0_82) = 0 then none else (Option.bind (mX7_sixtyOf (x4 / (Int32.toInt64 z0_82))) (fun u16 => (mlX7_factor_29 x3 kE n u16 x6_14)))))))) (fun kJ82 => (if u12 = 0 then (kJ82 y7_66) else (kJ82 (Int64.toInt32 x4)))))))) kN (81 : Int32)))
set_option maxHeartbeats 4000000 in
set_option maxRecDepth 100000 in
theorem lX7_factor_29 {p : Program} {l : Launch} {e : Env} {s : State} {m : MethodId} {args : Array Value} {below : List Frame} {meth : Method} {c : Code} {Q : State → Prop} (C : kc p s m args meth c cX7_factor 8 RX7 yX7_factor.name wsX7_factor (some .int)) {mo : Nat} (x3 : Int32) (res : Int32) (hQ : ∀ (v : Int32) (pc : Nat) (ls : Array Slot), some v = some res → decode cX7_factor pc = .ok (.ireturn, 1) → W p l e rmX7_factor s m args below meth c s.heap [] 0 0 Q (F0 m pc ls [.int v])) (kE : Int32 → Option Int32) (hE : ∀ (y6 : Int32), kE y6 = some res → ∀ (ls : Array Slot), lv_has ls 8 [(3, .int x3), (6, .int y6)] → W p l e rmX7_factor s m args below meth c s.heap [] 0 0 Q (F0 m 110 ls [])) : ∀ (n : Nat), ∀ (x4 : Int64) (x6 : Int32), mlX7_factor_29 x3 kE n x4 x6 = some res → ∀ (ls : Array Slot), lv_has ls 8 [(3, .int x3), (4, .long x4), (6, .int x6)] → W p l e rmX7_factor s m args below meth c s.heap [] 0 0 Q (F0 m 29 ls []) := by
  have C0 := C
  obtain ⟨hx, hb, hml, hown, hts, hr, hlk, hnm⟩ := C0
  intro n
  induction n with
  | zero => intro _ _ h; exact md_x h
  | succ n ih =>
    intro x4 x6 h ls hl
    rw [mlX7_factor_29] at h
    refine lv_lload hx hb dX7_factor_29 (lv_at hl 1 rfl) ?_
    refine lv_lconst (v := 1) hx hb dX7_factor_31 (by decide) ?_
    refine W.lcmp hx hb dX7_factor_32 ?_
    refine lv_if_eq (tgt := 110) hx hb dX7_factor_33 (by decide) (fun c6 => ?_) (fun c6 => ?_)
    · replace c6 := (lg_cmp_eq _ _).mp c6
      replace h := md_t c6 h
      exact hE x6 h ls (lv_sub hl [0, 2] rfl)
    replace c6 := fun q9 => c6 ((lg_cmp_eq _ _).mpr q9)
    replace h := md_f c6 h
    refine lv_bipush (v := 81) hx hb dX7_factor_36 (by decide) ?_
    refine lv_istore (lv' := [(7, .int (81 : Int32)), (3, .int x3), (4, .long x4), (6, .int x6)]) hx hb dX7_factor_38 hl (by decide) rfl (fun ls hl => ?_)
    refine lX7_factor_40 (mo := mo) C x3 x4 x6 res hQ _ (fun y7_66 h ls hl => ?_) kN (81 : Int32) h ls (lv_sub hl [1, 2, 3, 0] rfl)
    refine lv_lload hx hb dX7_factor_66 (lv_at hl 1 rfl) ?_
    obtain ⟨u12, hu12, h⟩ := md_b h
    refine kS C (ctX7_isListed l  hu12) gX7_factor_X7_isListed rfl kdX7_isListed ⟨rfl, rfl⟩ ⟨by decide, by decide⟩ kT_blind (fun _ _ _ => trivial) rfl hl [] rfl (Nat.le_of_ble_eq_true rfl) dX7_factor_68 ⟨by decide, by decide⟩ ?_
    obtain ⟨kJ82, ekJ82, h⟩ := md_jo h
    have KJ82 : ∀ (z0_82 : Int32), kJ82 z0_82 = some res → ∀ (ls : Array Slot), lv_has ls 8 [(3, .int x3), (4, .long x4), (6, .int x6)] → W p l e rmX7_factor s m args below meth c s.heap [] 0 0 Q (F0 m 82 ls [.int z0_82]) := by
      intro z0_82 h ls hl
      rw [ekJ82] at h
      refine lv_istore (lv' := [(7, .int z0_82), (3, .int x3), (4, .long x4), (6, .int x6)]) hx hb dX7_factor_82 hl (by decide) rfl (fun ls hl => ?_)
      refine lv_iload hx hb dX7_factor_84 (lv_at hl 3 rfl) ?_
      refine lv_iload_n hx hb dX7_factor_86 rfl (lv_at hl 1 rfl) ?_
      refine lv_icmp_ne (tgt := 93) hx hb dX7_factor_87 (by decide) (fun c13 => ?_) (fun c13 => ?_)
      · replace h := md_f c13 h
        obtain ⟨x6_14, ex6_14⟩ : ∃ y : Int32, y = (x6 + (1 : Int32)) := ⟨_, rfl⟩
        replace h := md_le ex6_14 h
        refine lv_iinc (v := x6_14) (lv' := [(6, .int x6_14), (7, .int z0_82), (3, .int x3), (4, .long x4)]) hx hb dX7_factor_93 hl (k := 3) rfl (by rw [ex6_14]; rfl) (by decide) rfl (fun ls hl => ?_)
        refine lv_lload hx hb dX7_factor_96 (lv_at hl 3 rfl) ?_
        refine lv_iload hx hb dX7_factor_98 (lv_at hl 1 rfl) ?_
        refine lv_i2l hx hb dX7_factor_100 rfl ?_
        obtain ⟨hz15, h⟩ := md_g h
        refine lv_ldiv hx hb dX7_factor_101 hz15 ?_
        obtain ⟨u16, hu16, h⟩ := md_b h
        refine kS C (ctX7_sixtyOf l  hu16) gX7_factor_X7_sixtyOf rfl kdX7_sixtyOf ⟨rfl, rfl⟩ ⟨by decide, by decide⟩ kT_blind (fun _ _ _ => trivial) rfl hl [] rfl (Nat.le_of_ble_eq_true rfl) dX7_factor_102 ⟨by decide, by decide⟩ ?_
        refine lv_lstore (lv' := [(4, .long u16), (6, .int x6_14), (7, .int z0_82), (3, .int x3)]) hx hb dX7_factor_105 hl (by decide) rfl (fun ls hl => ?_)
        refine lv_goto (tgt := 29) hx hb dX7_factor_107 (by decide) ?_
        exact ih u16 x6_14 h ls (lv_sub hl [3, 0, 1] rfl)
      replace h := md_t c13 h
      refine lv_iload hx hb dX7_factor_90 (lv_at hl 0 rfl) ?_
      exact hQ z0_82 92 ls h dX7_factor_92
    clear ekJ82
    refine lv_if_eq (tgt := 80) hx hb dX7_factor_71 (by decide) (fun c17 => ?_) (fun c17 => ?_)
    · replace h := md_t c17 h
      refine lv_iload hx hb dX7_factor_80 (lv_at hl 3 rfl) ?_
      exact KJ82 y7_66 h ls (lv_sub hl [0, 1, 2] rfl)
    replace h := md_f c17 h
    refine lv_lload hx hb dX7_factor_74 (lv_at hl 1 rfl) ?_
    refine lv_l2i hx hb dX7_factor_76 rfl ?_
    refine lv_goto (tgt := 82) hx hb dX7_factor_77 (by decide) ?_
    exact KJ82 (Int64.toInt32 x4) h ls (lv_sub hl [0, 1, 2] rfl)
def mX7_factor (p1 : Int64) (p2 : Int32) : Option Int32 := (Option.bind (mX7_isGiven p1) (fun u1 => (if u1 = 0 then (some (-2 : Int32)) else (Option.bind (mX7_isEven p1) (fun u3 => (if u3 = 0 then (some (-5 : Int32)) else (Option.bind (mX7_sixtyOf p1) (fun u5 => (mlX7_factor_29 p2 (fun (y6_110 : Int32) => (if p2 = (-1 : Int32) then (some y6_110) else (some (-6 : Int32)))) kN u5 (0 : Int32))))))))))
set_option maxHeartbeats 4000000 in
set_option maxRecDepth 100000 in
theorem bX7_factor {p : Program} {l : Launch} {e : Env} {s : State} {m : MethodId} {args : Array Value} {below : List Frame} {meth : Method} {c : Code} {Q : State → Prop} (C : kc p s m args meth c cX7_factor 8 RX7 yX7_factor.name wsX7_factor (some .int)) {mo : Nat} (p1 : Int64) (p2 : Int32) (res : Int32) (hQ : ∀ (v : Int32) (pc : Nat) (ls : Array Slot), some v = some res → decode cX7_factor pc = .ok (.ireturn, 1) → W p l e rmX7_factor s m args below meth c s.heap [] 0 0 Q (F0 m pc ls [.int v])) : mX7_factor p1 p2 = some res → ∀ (ls : Array Slot), lv_has ls 8 [(0, .ref mo), (1, .long p1), (3, .int p2)] → W p l e rmX7_factor s m args below meth c s.heap [] 0 0 Q (F0 m 0 ls []) := by
  intro h ls hl
  have C0 := C
  obtain ⟨hx, hb, hml, hown, hts, hr, hlk, hnm⟩ := C0
  rw [mX7_factor] at h
  refine lv_lload_n hx hb dX7_factor_0 rfl (lv_at hl 1 rfl) ?_
  obtain ⟨u1, hu1, h⟩ := md_b h
  refine kS C (ctX7_isGiven l  hu1) gX7_factor_X7_isGiven rfl kdX7_isGiven ⟨rfl, rfl⟩ ⟨by decide, by decide⟩ kT_blind (fun _ _ _ => trivial) rfl hl [] rfl (Nat.le_of_ble_eq_true rfl) dX7_factor_1 ⟨by decide, by decide⟩ ?_
  refine lv_if_ne (tgt := 10) hx hb dX7_factor_4 (by decide) (fun c2 => ?_) (fun c2 => ?_)
  · replace h := md_f c2 h
    refine lv_lload_n hx hb dX7_factor_10 rfl (lv_at hl 1 rfl) ?_
    obtain ⟨u3, hu3, h⟩ := md_b h
    refine kS C (ctX7_isEven l  hu3) gX7_factor_X7_isEven rfl kdX7_isEven ⟨rfl, rfl⟩ ⟨by decide, by decide⟩ kT_blind (fun _ _ _ => trivial) rfl hl [] rfl (Nat.le_of_ble_eq_true rfl) dX7_factor_11 ⟨by decide, by decide⟩ ?_
    refine lv_if_ne (tgt := 20) hx hb dX7_factor_14 (by decide) (fun c4 => ?_) (fun c4 => ?_)
    · replace h := md_f c4 h
      refine lv_lload_n hx hb dX7_factor_20 rfl (lv_at hl 1 rfl) ?_
      obtain ⟨u5, hu5, h⟩ := md_b h
      refine kS C (ctX7_sixtyOf l  hu5) gX7_factor_X7_sixtyOf rfl kdX7_sixtyOf ⟨rfl, rfl⟩ ⟨by decide, by decide⟩ kT_blind (fun _ _ _ => trivial) rfl hl [] rfl (Nat.le_of_ble_eq_true rfl) dX7_factor_21 ⟨by decide, by decide⟩ ?_
      refine lv_lstore (lv' := [(4, .long u5), (0, .ref mo), (1, .long p1), (3, .int p2)]) hx hb dX7_factor_24 hl (by decide) rfl (fun ls hl => ?_)
      refine lv_iconst (v := 0) hx hb dX7_factor_26 (by decide) ?_
      refine lv_istore (lv' := [(6, .int (0 : Int32)), (4, .long u5), (0, .ref mo), (1, .long p1), (3, .int p2)]) hx hb dX7_factor_27 hl (by decide) rfl (fun ls hl => ?_)
      refine lX7_factor_29 (mo := mo) C p2 res hQ _ (fun y6_110 h ls hl => ?_) kN u5 (0 : Int32) h ls (lv_sub hl [4, 1, 0] rfl)
      refine lv_iload_n hx hb dX7_factor_110 rfl (lv_at hl 0 rfl) ?_
      refine lv_iconst (v := -1) hx hb dX7_factor_111 (by decide) ?_
      refine lv_icmp_ne (tgt := 120) hx hb dX7_factor_112 (by decide) (fun c18 => ?_) (fun c18 => ?_)
      · replace h := md_f c18 h
        refine lv_bipush (v := -6) hx hb dX7_factor_120 (by decide) ?_
        exact hQ (-6 : Int32) 122 ls h dX7_factor_122
      replace h := md_t c18 h
      refine lv_iload hx hb dX7_factor_115 (lv_at hl 1 rfl) ?_
      refine lv_goto (tgt := 122) hx hb dX7_factor_117 (by decide) ?_
      exact hQ y6_110 122 ls h dX7_factor_122
    replace h := md_t c4 h
    refine lv_bipush (v := -5) hx hb dX7_factor_17 (by decide) ?_
    exact hQ (-5 : Int32) 19 ls h dX7_factor_19
  replace h := md_t c2 h
  refine lv_bipush (v := -2) hx hb dX7_factor_7 (by decide) ?_
  exact hQ (-2 : Int32) 9 ls h dX7_factor_9
set_option maxHeartbeats 4000000 in
theorem ctX7_factor (l : Launch) {mo : Nat} {p1 : Int64} {p2 : Int32} {res : Int32} (hm : mX7_factor p1 p2 = some res) : Met l yX7_factor wsX7_factor rmX7_factor (va_Pc [.ref mo, .long p1, .int p2] (fun _ => True)) (kR (.int res)) 0 0 (fun _ => False) :=
  km (by decide) rfl (Nat.le_of_ble_eq_true rfl) (fun p e s m below meth c ls C hB hl => bX7_factor C p1 p2 res (fun v pc ls h hd => kr_i C h hd) hm ls hl)
theorem wm_X7_whole_0 : Cond.constantLong RX7 115 (2000000000) ∈ wsX7_whole := by decide +kernel
theorem wm_X7_whole_1 : Cond.constantLong RX7 99 (2) ∈ wsX7_whole := by decide +kernel
theorem kdX7_whole : yX7_whole.cls ≠ "java/lang/invoke/MethodHandle" ∧ yX7_whole.cls ≠ "java/lang/invoke/VarHandle" ∧ (parseMethodDescriptor yX7_whole.desc).map (fun d => d.parameters.length) = some 1 := by decide +kernel
abbrev rmX7_whole : Room := { frames := 0, cells := 0, slots := 0, locals := 0 }
def mlX7_whole_7 (x0 : Int64) (kE : Int64 → Option Int64) : Nat → Int64 → Int64 → Option Int64
  | 0, _, _ => none
  | n + 1, x2, x4 => (if (x4 - x2) ≤ (1 : Int64) then (kE x2) else (md_let ((x2 + x4) / (2 : Int64)) (fun (x6_2 : Int64) => (md_jn (fun (x2_46 : Int64) (x4_46 : Int64) => (mlX7_whole_7 x0 kE n x2_46 x4_46)) (fun kJ46 => (if x0 < (x6_2 * x6_2) then (kJ46 x2 x6_2) else (kJ46 x6_2 x4)))))))
set_option maxHeartbeats 4000000 in
set_option maxRecDepth 100000 in
theorem lX7_whole_7 {p : Program} {l : Launch} {e : Env} {s : State} {m : MethodId} {args : Array Value} {below : List Frame} {meth : Method} {c : Code} {Q : State → Prop} (C : kc p s m args meth c cX7_whole 8 RX7 yX7_whole.name wsX7_whole (some .long)) (x0 : Int64) (res : Int64) (hQ : ∀ (v : Int64) (pc : Nat) (ls : Array Slot), some v = some res → decode cX7_whole pc = .ok (.lreturn, 1) → W p l e rmX7_whole s m args below meth c s.heap [] 0 0 Q (F0 m pc ls [.long v])) (kE : Int64 → Option Int64) (hE : ∀ (y2 : Int64), kE y2 = some res → ∀ (ls : Array Slot), lv_has ls 8 [(2, .long y2)] → W p l e rmX7_whole s m args below meth c s.heap [] 0 0 Q (F0 m 49 ls [])) : ∀ (n : Nat), ∀ (x2 : Int64) (x4 : Int64), mlX7_whole_7 x0 kE n x2 x4 = some res → ∀ (ls : Array Slot), lv_has ls 8 [(0, .long x0), (2, .long x2), (4, .long x4)] → W p l e rmX7_whole s m args below meth c s.heap [] 0 0 Q (F0 m 7 ls []) := by
  have C0 := C
  obtain ⟨hx, hb, hml, hown, hts, hr, hlk, hnm⟩ := C0
  intro n
  induction n with
  | zero => intro _ _ h; exact md_x h
  | succ n ih =>
    intro x2 x4 h ls hl
    rw [mlX7_whole_7] at h
    refine lv_lload hx hb dX7_whole_7 (lv_at hl 2 rfl) ?_
    refine lv_lload_n hx hb dX7_whole_9 rfl (lv_at hl 1 rfl) ?_
    refine lv_lsub hx hb dX7_whole_10 ?_
    refine lv_lconst (v := 1) hx hb dX7_whole_11 (by decide) ?_
    refine W.lcmp hx hb dX7_whole_12 ?_
    refine lv_if_le (tgt := 49) hx hb dX7_whole_13 (by decide) (fun c1 => ?_) (fun c1 => ?_)
    · replace c1 := (lg_cmp_le _ _).mp c1
      replace h := md_t c1 h
      exact hE x2 h ls (lv_sub hl [1] rfl)
    replace c1 := fun q9 => c1 ((lg_cmp_le _ _).mpr q9)
    replace h := md_f c1 h
    refine lv_lload_n hx hb dX7_whole_16 rfl (lv_at hl 1 rfl) ?_
    refine lv_lload hx hb dX7_whole_17 (lv_at hl 2 rfl) ?_
    refine lv_ladd hx hb dX7_whole_19 ?_
    refine lv_ldc2 hx hb hown (hts _ wm_X7_whole_1) dX7_whole_20 ?_
    refine lv_ldiv hx hb dX7_whole_23 (by decide) ?_
    refine lv_topl (fun x6_2 ex6_2 => ?_)
    replace h := md_le ex6_2 h
    refine lv_lstore (lv' := [(6, .long x6_2), (0, .long x0), (2, .long x2), (4, .long x4)]) hx hb dX7_whole_24 hl (by decide) rfl (fun ls hl => ?_)
    refine lv_lload hx hb dX7_whole_26 (lv_at hl 0 rfl) ?_
    refine lv_lload hx hb dX7_whole_28 (lv_at hl 0 rfl) ?_
    refine lv_lmul hx hb dX7_whole_30 ?_
    refine lv_lload_n hx hb dX7_whole_31 rfl (lv_at hl 1 rfl) ?_
    refine W.lcmp hx hb dX7_whole_32 ?_
    obtain ⟨kJ46, ekJ46, h⟩ := md_jo h
    have KJ46 : ∀ (x2_46 : Int64) (x4_46 : Int64), kJ46 x2_46 x4_46 = some res → ∀ (ls : Array Slot), lv_has ls 8 [(0, .long x0), (2, .long x2_46), (4, .long x4_46)] → W p l e rmX7_whole s m args below meth c s.heap [] 0 0 Q (F0 m 46 ls []) := by
      intro x2_46 x4_46 h ls hl
      rw [ekJ46] at h
      refine lv_goto (tgt := 7) hx hb dX7_whole_46 (by decide) ?_
      exact ih x2_46 x4_46 h ls (lv_sub hl [0, 1, 2] rfl)
    clear ekJ46
    refine lv_if_gt (tgt := 42) hx hb dX7_whole_33 (by decide) (fun c3 => ?_) (fun c3 => ?_)
    · replace c3 := (lg_cmp_gt _ _).mp c3
      replace h := md_t c3 h
      refine lv_lload hx hb dX7_whole_42 (lv_at hl 0 rfl) ?_
      refine lv_lstore (lv' := [(4, .long x6_2), (6, .long x6_2), (0, .long x0), (2, .long x2)]) hx hb dX7_whole_44 hl (by decide) rfl (fun ls hl => ?_)
      exact KJ46 x2 x6_2 h ls (lv_sub hl [2, 3, 0] rfl)
    replace c3 := fun q9 => c3 ((lg_cmp_gt _ _).mpr q9)
    replace h := md_f c3 h
    refine lv_lload hx hb dX7_whole_36 (lv_at hl 0 rfl) ?_
    refine lv_lstore_n (lv' := [(2, .long x6_2), (6, .long x6_2), (0, .long x0), (4, .long x4)]) hx hb dX7_whole_38 rfl hl (by decide) rfl (fun ls hl => ?_)
    refine lv_goto (tgt := 46) hx hb dX7_whole_39 (by decide) ?_
    exact KJ46 x6_2 x4 h ls (lv_sub hl [2, 0, 3] rfl)
def mX7_whole (p1 : Int64) : Option Int64 := (mlX7_whole_7 p1 (fun (y2_49 : Int64) => (some y2_49)) kN (0 : Int64) (2000000000 : Int64))
set_option maxHeartbeats 4000000 in
set_option maxRecDepth 100000 in
theorem bX7_whole {p : Program} {l : Launch} {e : Env} {s : State} {m : MethodId} {args : Array Value} {below : List Frame} {meth : Method} {c : Code} {Q : State → Prop} (C : kc p s m args meth c cX7_whole 8 RX7 yX7_whole.name wsX7_whole (some .long)) (p1 : Int64) (res : Int64) (hQ : ∀ (v : Int64) (pc : Nat) (ls : Array Slot), some v = some res → decode cX7_whole pc = .ok (.lreturn, 1) → W p l e rmX7_whole s m args below meth c s.heap [] 0 0 Q (F0 m pc ls [.long v])) : mX7_whole p1 = some res → ∀ (ls : Array Slot), lv_has ls 8 [(0, .long p1)] → W p l e rmX7_whole s m args below meth c s.heap [] 0 0 Q (F0 m 0 ls []) := by
  intro h ls hl
  have C0 := C
  obtain ⟨hx, hb, hml, hown, hts, hr, hlk, hnm⟩ := C0
  rw [mX7_whole] at h
  refine lv_lconst (v := 0) hx hb dX7_whole_0 (by decide) ?_
  refine lv_lstore_n (lv' := [(2, .long (0 : Int64)), (0, .long p1)]) hx hb dX7_whole_1 rfl hl (by decide) rfl (fun ls hl => ?_)
  refine lv_ldc2 hx hb hown (hts _ wm_X7_whole_0) dX7_whole_2 ?_
  refine lv_lstore (lv' := [(4, .long (2000000000 : Int64)), (2, .long (0 : Int64)), (0, .long p1)]) hx hb dX7_whole_5 hl (by decide) rfl (fun ls hl => ?_)
  refine lX7_whole_7 C p1 res hQ _ (fun y2_49 h ls hl => ?_) kN (0 : Int64) (2000000000 : Int64) h ls (lv_sub hl [2, 1, 0] rfl)
  refine lv_lload_n hx hb dX7_whole_49 rfl (lv_at hl 0 rfl) ?_
  exact hQ y2_49 50 ls h dX7_whole_50
set_option maxHeartbeats 4000000 in
theorem ctX7_whole (l : Launch) {p1 : Int64} {res : Int64} (hm : mX7_whole p1 = some res) : Met l yX7_whole wsX7_whole rmX7_whole (va_Pc [.long p1] (fun _ => True)) (kR (.long res)) 0 0 (fun _ => False) :=
  km (by decide) rfl (Nat.le_of_ble_eq_true rfl) (fun p e s m below meth c ls C hB hl => bX7_whole C p1 res (fun v pc ls h hd => kr_l C h hd) hm ls hl)
theorem wm_X7_root_0 : Cond.constantLong RX7 57 (-1000000000000000002) ∈ wsX7_root := by decide +kernel
theorem wm_X7_root_1 : Cond.constantLong RX7 110 (3) ∈ wsX7_root := by decide +kernel
theorem wm_X7_root_2 : Cond.constantLong RX7 86 (-1000000000000000004) ∈ wsX7_root := by decide +kernel
theorem kdvX7_root : yX7_root.cls = RX7 ∧ yX7_root.cls ≠ "java/lang/invoke/MethodHandle" ∧ yX7_root.cls ≠ "java/lang/invoke/VarHandle" ∧ (parseMethodDescriptor yX7_root.desc).map (fun d => d.parameters.length) = some 2 := by decide +kernel
abbrev rmX7_root : Room := { frames := 2, cells := 0, slots := 0, locals := 46 }
def mX7_root (p1 : Int64) (p2 : Int32) : Option Int64 := (Option.bind (mX7_isGiven p1) (fun u1 => (if u1 = 0 then (some (-1000000000000000002 : Int64)) else (Option.bind (mX7_in (Int32.toInt64 p2) (0 : Int64) (3 : Int64)) (fun u3 => (if u3 = 0 then (some (-1000000000000000002 : Int64)) else (Option.bind (mX7_power (10 : Int32)) (fun u5 => (Option.bind (mX7_power ((2 : Int32) * p2)) (fun u6 => (if u6 = 0 then none else (if p1 ≤ ((u5 - (1 : Int64)) / u6) then (Option.bind (mX7_whole (p1 * u6)) (fun u9 => (some u9))) else (some (-1000000000000000004 : Int64))))))))))))))
set_option maxHeartbeats 4000000 in
set_option maxRecDepth 100000 in
theorem bX7_root {p : Program} {l : Launch} {e : Env} {s : State} {m : MethodId} {args : Array Value} {below : List Frame} {meth : Method} {c : Code} {Q : State → Prop} (C : kc p s m args meth c cX7_root 8 RX7 yX7_root.name wsX7_root (some .long)) {mo : Nat} (p1 : Int64) (p2 : Int32) (res : Int64) (hQ : ∀ (v : Int64) (pc : Nat) (ls : Array Slot), some v = some res → decode cX7_root pc = .ok (.lreturn, 1) → W p l e rmX7_root s m args below meth c s.heap [] 0 0 Q (F0 m pc ls [.long v])) : mX7_root p1 p2 = some res → ∀ (ls : Array Slot), lv_has ls 8 [(0, .ref mo), (1, .long p1), (3, .int p2)] → W p l e rmX7_root s m args below meth c s.heap [] 0 0 Q (F0 m 0 ls []) := by
  intro h ls hl
  have C0 := C
  obtain ⟨hx, hb, hml, hown, hts, hr, hlk, hnm⟩ := C0
  rw [mX7_root] at h
  refine lv_lload_n hx hb dX7_root_0 rfl (lv_at hl 1 rfl) ?_
  obtain ⟨u1, hu1, h⟩ := md_b h
  refine kS C (ctX7_isGiven l  hu1) gX7_root_X7_isGiven rfl kdX7_isGiven ⟨rfl, rfl⟩ ⟨by decide, by decide⟩ kT_blind (fun _ _ _ => trivial) rfl hl [] rfl (Nat.le_of_ble_eq_true rfl) dX7_root_1 ⟨by decide, by decide⟩ ?_
  refine lv_if_eq (tgt := 19) hx hb dX7_root_4 (by decide) (fun c2 => ?_) (fun c2 => ?_)
  · replace h := md_t c2 h
    refine lv_ldc2 hx hb hown (hts _ wm_X7_root_0) dX7_root_19 ?_
    exact hQ (-1000000000000000002 : Int64) 22 ls h dX7_root_22
  replace h := md_f c2 h
  refine lv_iload_n hx hb dX7_root_7 rfl (lv_at hl 2 rfl) ?_
  refine lv_i2l hx hb dX7_root_8 rfl ?_
  refine lv_lconst (v := 0) hx hb dX7_root_9 (by decide) ?_
  refine lv_ldc2 hx hb hown (hts _ wm_X7_root_1) dX7_root_10 ?_
  obtain ⟨u3, hu3, h⟩ := md_b h
  refine kS C (ctX7_in l  hu3) gX7_root_X7_in rfl kdX7_in ⟨rfl, rfl⟩ ⟨by decide, by decide⟩ kT_blind (fun _ _ _ => trivial) rfl hl [] rfl (Nat.le_of_ble_eq_true rfl) dX7_root_13 ⟨by decide, by decide⟩ ?_
  refine lv_if_ne (tgt := 23) hx hb dX7_root_16 (by decide) (fun c4 => ?_) (fun c4 => ?_)
  · replace h := md_f c4 h
    refine lv_bipush (v := 10) hx hb dX7_root_23 (by decide) ?_
    obtain ⟨u5, hu5, h⟩ := md_b h
    refine kS C (ctX7_power l  hu5) gX7_root_X7_power rfl kdX7_power ⟨rfl, rfl⟩ ⟨by decide, by decide⟩ kT_blind (fun _ _ _ => trivial) rfl hl [] rfl (Nat.le_of_ble_eq_true rfl) dX7_root_25 ⟨by decide, by decide⟩ ?_
    refine lv_lstore (lv' := [(4, .long u5), (0, .ref mo), (1, .long p1), (3, .int p2)]) hx hb dX7_root_28 hl (by decide) rfl (fun ls hl => ?_)
    refine lv_iconst (v := 2) hx hb dX7_root_30 (by decide) ?_
    refine lv_iload_n hx hb dX7_root_31 rfl (lv_at hl 3 rfl) ?_
    refine lv_imul hx hb dX7_root_32 ?_
    obtain ⟨u6, hu6, h⟩ := md_b h
    refine kS C (ctX7_power l  hu6) gX7_root_X7_power rfl kdX7_power ⟨rfl, rfl⟩ ⟨by decide, by decide⟩ kT_blind (fun _ _ _ => trivial) rfl hl [] rfl (Nat.le_of_ble_eq_true rfl) dX7_root_33 ⟨by decide, by decide⟩ ?_
    refine lv_lstore (lv' := [(6, .long u6), (4, .long u5), (0, .ref mo), (1, .long p1), (3, .int p2)]) hx hb dX7_root_36 hl (by decide) rfl (fun ls hl => ?_)
    refine lv_lload_n hx hb dX7_root_38 rfl (lv_at hl 3 rfl) ?_
    refine lv_lload hx hb dX7_root_39 (lv_at hl 1 rfl) ?_
    refine lv_lconst (v := 1) hx hb dX7_root_41 (by decide) ?_
    refine lv_lsub hx hb dX7_root_42 ?_
    refine lv_lload hx hb dX7_root_43 (lv_at hl 0 rfl) ?_
    obtain ⟨hz7, h⟩ := md_g h
    refine lv_ldiv hx hb dX7_root_45 hz7 ?_
    refine W.lcmp hx hb dX7_root_46 ?_
    refine lv_if_le (tgt := 54) hx hb dX7_root_47 (by decide) (fun c8 => ?_) (fun c8 => ?_)
    · replace c8 := (lg_cmp_le _ _).mp c8
      replace h := md_t c8 h
      refine lv_lload_n hx hb dX7_root_54 rfl (lv_at hl 3 rfl) ?_
      refine lv_lload hx hb dX7_root_55 (lv_at hl 0 rfl) ?_
      refine lv_lmul hx hb dX7_root_57 ?_
      obtain ⟨u9, hu9, h⟩ := md_b h
      refine kS C (ctX7_whole l  hu9) gX7_root_X7_whole rfl kdX7_whole ⟨rfl, rfl⟩ ⟨by decide, by decide⟩ kT_blind (fun _ _ _ => trivial) rfl hl [] rfl (Nat.le_of_ble_eq_true rfl) dX7_root_58 ⟨by decide, by decide⟩ ?_
      exact hQ u9 61 ls h dX7_root_61
    replace c8 := fun q9 => c8 ((lg_cmp_le _ _).mpr q9)
    replace h := md_f c8 h
    refine lv_ldc2 hx hb hown (hts _ wm_X7_root_2) dX7_root_50 ?_
    exact hQ (-1000000000000000004 : Int64) 53 ls h dX7_root_53
  replace h := md_t c4 h
  refine lv_ldc2 hx hb hown (hts _ wm_X7_root_0) dX7_root_19 ?_
  exact hQ (-1000000000000000002 : Int64) 22 ls h dX7_root_22
set_option maxHeartbeats 4000000 in
theorem ctX7_root (l : Launch) {mo : Nat} {p1 : Int64} {p2 : Int32} {res : Int64} (hm : mX7_root p1 p2 = some res) : Met l yX7_root wsX7_root rmX7_root (va_Pc [.ref mo, .long p1, .int p2] (fun _ => True)) (kR (.long res)) 0 0 (fun _ => False) :=
  km (by decide) rfl (Nat.le_of_ble_eq_true rfl) (fun p e s m below meth c ls C hB hl => bX7_root C p1 p2 res (fun v pc ls h hd => kr_l C h hd) hm ls hl)
theorem wm_X7_isShort_0 : Cond.constantLong RX7 117 (12959999) ∈ wsX7_isShort := by decide +kernel
theorem kdX7_isShort : yX7_isShort.cls ≠ "java/lang/invoke/MethodHandle" ∧ yX7_isShort.cls ≠ "java/lang/invoke/VarHandle" ∧ (parseMethodDescriptor yX7_isShort.desc).map (fun d => d.parameters.length) = some 1 := by decide +kernel
abbrev rmX7_isShort : Room := { frames := 1, cells := 0, slots := 0, locals := 25 }
def mX7_isShort (p1 : Int64) : Option Int32 := (Option.bind (mX7_in p1 (1 : Int64) (12959999 : Int64)) (fun u1 => (if u1 = 0 ∨ u1 = 1 then (some u1) else none)))
set_option maxHeartbeats 4000000 in
set_option maxRecDepth 100000 in
theorem bX7_isShort {p : Program} {l : Launch} {e : Env} {s : State} {m : MethodId} {args : Array Value} {below : List Frame} {meth : Method} {c : Code} {Q : State → Prop} (C : kc p s m args meth c cX7_isShort 2 RX7 yX7_isShort.name wsX7_isShort (some .boolean)) (p1 : Int64) (res : Int32) (hQ : ∀ (v : Int32) (pc : Nat) (ls : Array Slot), v = 0 ∨ v = 1 → some v = some res → decode cX7_isShort pc = .ok (.ireturn, 1) → W p l e rmX7_isShort s m args below meth c s.heap [] 0 0 Q (F0 m pc ls [.int v])) : mX7_isShort p1 = some res → ∀ (ls : Array Slot), lv_has ls 2 [(0, .long p1)] → W p l e rmX7_isShort s m args below meth c s.heap [] 0 0 Q (F0 m 0 ls []) := by
  intro h ls hl
  have C0 := C
  obtain ⟨hx, hb, hml, hown, hts, hr, hlk, hnm⟩ := C0
  rw [mX7_isShort] at h
  refine lv_lload_n hx hb dX7_isShort_0 rfl (lv_at hl 0 rfl) ?_
  refine lv_lconst (v := 1) hx hb dX7_isShort_1 (by decide) ?_
  refine lv_ldc2 hx hb hown (hts _ wm_X7_isShort_0) dX7_isShort_2 ?_
  obtain ⟨u1, hu1, h⟩ := md_b h
  refine kS C (ctX7_in l  hu1) gX7_isShort_X7_in rfl kdX7_in ⟨rfl, rfl⟩ ⟨by decide, by decide⟩ kT_blind (fun _ _ _ => trivial) rfl hl [] rfl (Nat.le_of_ble_eq_true rfl) dX7_isShort_5 ⟨by decide, by decide⟩ ?_
  obtain ⟨hz2, h⟩ := md_z h
  exact hQ u1 8 ls hz2 h dX7_isShort_8
set_option maxHeartbeats 4000000 in
theorem ctX7_isShort (l : Launch) {p1 : Int64} {res : Int32} (hm : mX7_isShort p1 = some res) : Met l yX7_isShort wsX7_isShort rmX7_isShort (va_Pc [.long p1] (fun _ => True)) (kR (.int res)) 0 0 (fun _ => False) :=
  km (by decide) rfl (Nat.le_of_ble_eq_true rfl) (fun p e s m below meth c ls C hB hl => bX7_isShort C p1 res (fun v pc ls hz h hd => kr_z C hz h hd) hm ls hl)
theorem wm_X7_isTablet_0 : Cond.constantLong RX7 110 (3) ∈ wsX7_isTablet := by decide +kernel
theorem kdX7_isTablet : yX7_isTablet.cls ≠ "java/lang/invoke/MethodHandle" ∧ yX7_isTablet.cls ≠ "java/lang/invoke/VarHandle" ∧ (parseMethodDescriptor yX7_isTablet.desc).map (fun d => d.parameters.length) = some 1 := by decide +kernel
abbrev rmX7_isTablet : Room := { frames := 1, cells := 0, slots := 0, locals := 25 }
def mX7_isTablet (p1 : Int32) : Option Int32 := (Option.bind (mX7_in (Int32.toInt64 p1) (0 : Int64) (3 : Int64)) (fun u1 => (if u1 = 0 ∨ u1 = 1 then (some u1) else none)))
set_option maxHeartbeats 4000000 in
set_option maxRecDepth 100000 in
theorem bX7_isTablet {p : Program} {l : Launch} {e : Env} {s : State} {m : MethodId} {args : Array Value} {below : List Frame} {meth : Method} {c : Code} {Q : State → Prop} (C : kc p s m args meth c cX7_isTablet 1 RX7 yX7_isTablet.name wsX7_isTablet (some .boolean)) (p1 : Int32) (res : Int32) (hQ : ∀ (v : Int32) (pc : Nat) (ls : Array Slot), v = 0 ∨ v = 1 → some v = some res → decode cX7_isTablet pc = .ok (.ireturn, 1) → W p l e rmX7_isTablet s m args below meth c s.heap [] 0 0 Q (F0 m pc ls [.int v])) : mX7_isTablet p1 = some res → ∀ (ls : Array Slot), lv_has ls 1 [(0, .int p1)] → W p l e rmX7_isTablet s m args below meth c s.heap [] 0 0 Q (F0 m 0 ls []) := by
  intro h ls hl
  have C0 := C
  obtain ⟨hx, hb, hml, hown, hts, hr, hlk, hnm⟩ := C0
  rw [mX7_isTablet] at h
  refine lv_iload_n hx hb dX7_isTablet_0 rfl (lv_at hl 0 rfl) ?_
  refine lv_i2l hx hb dX7_isTablet_1 rfl ?_
  refine lv_lconst (v := 0) hx hb dX7_isTablet_2 (by decide) ?_
  refine lv_ldc2 hx hb hown (hts _ wm_X7_isTablet_0) dX7_isTablet_3 ?_
  obtain ⟨u1, hu1, h⟩ := md_b h
  refine kS C (ctX7_in l  hu1) gX7_isTablet_X7_in rfl kdX7_in ⟨rfl, rfl⟩ ⟨by decide, by decide⟩ kT_blind (fun _ _ _ => trivial) rfl hl [] rfl (Nat.le_of_ble_eq_true rfl) dX7_isTablet_6 ⟨by decide, by decide⟩ ?_
  obtain ⟨hz2, h⟩ := md_z h
  exact hQ u1 9 ls hz2 h dX7_isTablet_9
set_option maxHeartbeats 4000000 in
theorem ctX7_isTablet (l : Launch) {p1 : Int32} {res : Int32} (hm : mX7_isTablet p1 = some res) : Met l yX7_isTablet wsX7_isTablet rmX7_isTablet (va_Pc [.int p1] (fun _ => True)) (kR (.int res)) 0 0 (fun _ => False) :=
  km (by decide) rfl (Nat.le_of_ble_eq_true rfl) (fun p e s m below meth c ls C hB hl => bX7_isTablet C p1 res (fun v pc ls hz h hd => kr_z C hz h hd) hm ls hl)
theorem kdX7_at : yX7_at.cls ≠ "java/lang/invoke/MethodHandle" ∧ yX7_at.cls ≠ "java/lang/invoke/VarHandle" ∧ (parseMethodDescriptor yX7_at.desc).map (fun d => d.parameters.length) = some 3 := by decide +kernel
abbrev rmX7_at : Room := { frames := 0, cells := 0, slots := 0, locals := 0 }
def mX7_at (p1 : Int32) (p2 : Int32) (p3 : Int32) : Option Int32 := (some ((((24 : Int32) * p1) + ((3 : Int32) * p2)) + p3))
set_option maxHeartbeats 4000000 in
set_option maxRecDepth 100000 in
theorem bX7_at {p : Program} {l : Launch} {e : Env} {s : State} {m : MethodId} {args : Array Value} {below : List Frame} {meth : Method} {c : Code} {Q : State → Prop} (C : kc p s m args meth c cX7_at 3 RX7 yX7_at.name wsX7_at (some .int)) (p1 : Int32) (p2 : Int32) (p3 : Int32) (res : Int32) (hQ : ∀ (v : Int32) (pc : Nat) (ls : Array Slot), some v = some res → decode cX7_at pc = .ok (.ireturn, 1) → W p l e rmX7_at s m args below meth c s.heap [] 0 0 Q (F0 m pc ls [.int v])) : mX7_at p1 p2 p3 = some res → ∀ (ls : Array Slot), lv_has ls 3 [(0, .int p1), (1, .int p2), (2, .int p3)] → W p l e rmX7_at s m args below meth c s.heap [] 0 0 Q (F0 m 0 ls []) := by
  intro h ls hl
  have C0 := C
  obtain ⟨hx, hb, hml, hown, hts, hr, hlk, hnm⟩ := C0
  rw [mX7_at] at h
  refine lv_bipush (v := 24) hx hb dX7_at_0 (by decide) ?_
  refine lv_iload_n hx hb dX7_at_2 rfl (lv_at hl 0 rfl) ?_
  refine lv_imul hx hb dX7_at_3 ?_
  refine lv_iconst (v := 3) hx hb dX7_at_4 (by decide) ?_
  refine lv_iload_n hx hb dX7_at_5 rfl (lv_at hl 1 rfl) ?_
  refine lv_imul hx hb dX7_at_6 ?_
  refine lv_iadd hx hb dX7_at_7 ?_
  refine lv_iload_n hx hb dX7_at_8 rfl (lv_at hl 2 rfl) ?_
  refine lv_iadd hx hb dX7_at_9 ?_
  exact hQ ((((24 : Int32) * p1) + ((3 : Int32) * p2)) + p3) 10 ls h dX7_at_10
set_option maxHeartbeats 4000000 in
theorem ctX7_at (l : Launch) {p1 : Int32} {p2 : Int32} {p3 : Int32} {res : Int32} (hm : mX7_at p1 p2 p3 = some res) : Met l yX7_at wsX7_at rmX7_at (va_Pc [.int p1, .int p2, .int p3] (fun _ => True)) (kR (.int res)) 0 0 (fun _ => False) :=
  km (by decide) rfl (Nat.le_of_ble_eq_true rfl) (fun p e s m below meth c ls C hB hl => bX7_at C p1 p2 p3 res (fun v pc ls h hd => kr_i C h hd) hm ls hl)
theorem kdX7_rowsOf : yX7_rowsOf.cls ≠ "java/lang/invoke/MethodHandle" ∧ yX7_rowsOf.cls ≠ "java/lang/invoke/VarHandle" ∧ (parseMethodDescriptor yX7_rowsOf.desc).map (fun d => d.parameters.length) = some 1 := by decide +kernel
abbrev rmX7_rowsOf : Room := { frames := 0, cells := 0, slots := 0, locals := 0 }
def mX7_rowsOf (p1 : Int32) : Option Int32 := (if p1 = (1 : Int32) then (some (29 : Int32)) else (if p1 = (3 : Int32) then (some (40 : Int32)) else (some (59 : Int32))))
set_option maxHeartbeats 4000000 in
set_option maxRecDepth 100000 in
theorem bX7_rowsOf {p : Program} {l : Launch} {e : Env} {s : State} {m : MethodId} {args : Array Value} {below : List Frame} {meth : Method} {c : Code} {Q : State → Prop} (C : kc p s m args meth c cX7_rowsOf 1 RX7 yX7_rowsOf.name wsX7_rowsOf (some .int)) (p1 : Int32) (res : Int32) (hQ : ∀ (v : Int32) (pc : Nat) (ls : Array Slot), some v = some res → decode cX7_rowsOf pc = .ok (.ireturn, 1) → W p l e rmX7_rowsOf s m args below meth c s.heap [] 0 0 Q (F0 m pc ls [.int v])) : mX7_rowsOf p1 = some res → ∀ (ls : Array Slot), lv_has ls 1 [(0, .int p1)] → W p l e rmX7_rowsOf s m args below meth c s.heap [] 0 0 Q (F0 m 0 ls []) := by
  intro h ls hl
  have C0 := C
  obtain ⟨hx, hb, hml, hown, hts, hr, hlk, hnm⟩ := C0
  rw [mX7_rowsOf] at h
  refine lv_iload_n hx hb dX7_rowsOf_0 rfl (lv_at hl 0 rfl) ?_
  refine lv_iconst (v := 1) hx hb dX7_rowsOf_1 (by decide) ?_
  refine lv_icmp_ne (tgt := 10) hx hb dX7_rowsOf_2 (by decide) (fun c1 => ?_) (fun c1 => ?_)
  · replace h := md_f c1 h
    refine lv_iload_n hx hb dX7_rowsOf_10 rfl (lv_at hl 0 rfl) ?_
    refine lv_iconst (v := 3) hx hb dX7_rowsOf_11 (by decide) ?_
    refine lv_icmp_ne (tgt := 20) hx hb dX7_rowsOf_12 (by decide) (fun c2 => ?_) (fun c2 => ?_)
    · replace h := md_f c2 h
      refine lv_bipush (v := 59) hx hb dX7_rowsOf_20 (by decide) ?_
      exact hQ (59 : Int32) 22 ls h dX7_rowsOf_22
    replace h := md_t c2 h
    refine lv_bipush (v := 40) hx hb dX7_rowsOf_15 (by decide) ?_
    refine lv_goto (tgt := 22) hx hb dX7_rowsOf_17 (by decide) ?_
    exact hQ (40 : Int32) 22 ls h dX7_rowsOf_22
  replace h := md_t c1 h
  refine lv_bipush (v := 29) hx hb dX7_rowsOf_5 (by decide) ?_
  refine lv_goto (tgt := 22) hx hb dX7_rowsOf_7 (by decide) ?_
  exact hQ (29 : Int32) 22 ls h dX7_rowsOf_22
set_option maxHeartbeats 4000000 in
theorem ctX7_rowsOf (l : Launch) {p1 : Int32} {res : Int32} (hm : mX7_rowsOf p1 = some res) : Met l yX7_rowsOf wsX7_rowsOf rmX7_rowsOf (va_Pc [.int p1] (fun _ => True)) (kR (.int res)) 0 0 (fun _ => False) :=
  km (by decide) rfl (Nat.le_of_ble_eq_true rfl) (fun p e s m below meth c ls C hB hl => bX7_rowsOf C p1 res (fun v pc ls h hd => kr_i C h hd) hm ls hl)
theorem kdX7_inTable : yX7_inTable.cls ≠ "java/lang/invoke/MethodHandle" ∧ yX7_inTable.cls ≠ "java/lang/invoke/VarHandle" ∧ (parseMethodDescriptor yX7_inTable.desc).map (fun d => d.parameters.length) = some 4 := by decide +kernel
abbrev rmX7_inTable : Room := { frames := 3, cells := 0, slots := 0, locals := 68 }
def mX7_inTable (p1 : Int32) (p2 : Int32) (p3 : Int32) (p4 : Int32) : Option Int32 := (md_let (p3 + (1 : Int32)) (fun (x4_1 : Int32) => (if p1 = (1 : Int32) then (if p4 = 0 then (Option.bind (mX7_listAt p3) (fun u13 => (some u13))) else (if p4 = (1 : Int32) then (Option.bind (mX7_listAt p3) (fun u11 => (Option.bind (mX7_turnedOf (Int32.toInt64 u11)) (fun u12 => (some (Int64.toInt32 u12)))))) else (some (1 : Int32)))) else (if p4 = 0 then (if p1 = 0 then (some p2) else (some x4_1)) else (if p1 = (3 : Int32) then (if p4 = (1 : Int32) then (some (x4_1 * x4_1)) else (some ((x4_1 * x4_1) * x4_1))) else (if p4 = (1 : Int32) then (some x4_1) else (if p1 = 0 then (some (p2 * x4_1)) else (some (x4_1 * x4_1)))))))))
set_option maxHeartbeats 4000000 in
set_option maxRecDepth 100000 in
theorem bX7_inTable {p : Program} {l : Launch} {e : Env} {s : State} {m : MethodId} {args : Array Value} {below : List Frame} {meth : Method} {c : Code} {Q : State → Prop} (C : kc p s m args meth c cX7_inTable 5 RX7 yX7_inTable.name wsX7_inTable (some .int)) (p1 : Int32) (p2 : Int32) (p3 : Int32) (p4 : Int32) (res : Int32) (hQ : ∀ (v : Int32) (pc : Nat) (ls : Array Slot), some v = some res → decode cX7_inTable pc = .ok (.ireturn, 1) → W p l e rmX7_inTable s m args below meth c s.heap [] 0 0 Q (F0 m pc ls [.int v])) : mX7_inTable p1 p2 p3 p4 = some res → ∀ (ls : Array Slot), lv_has ls 5 [(0, .int p1), (1, .int p2), (2, .int p3), (3, .int p4)] → W p l e rmX7_inTable s m args below meth c s.heap [] 0 0 Q (F0 m 0 ls []) := by
  intro h ls hl
  have C0 := C
  obtain ⟨hx, hb, hml, hown, hts, hr, hlk, hnm⟩ := C0
  rw [mX7_inTable] at h
  refine lv_iload_n hx hb dX7_inTable_0 rfl (lv_at hl 2 rfl) ?_
  refine lv_iconst (v := 1) hx hb dX7_inTable_1 (by decide) ?_
  refine lv_iadd hx hb dX7_inTable_2 ?_
  refine lv_topi (fun x4_1 ex4_1 => ?_)
  replace h := md_le ex4_1 h
  refine lv_istore (lv' := [(4, .int x4_1), (0, .int p1), (1, .int p2), (2, .int p3), (3, .int p4)]) hx hb dX7_inTable_3 hl (by decide) rfl (fun ls hl => ?_)
  refine lv_iload_n hx hb dX7_inTable_5 rfl (lv_at hl 1 rfl) ?_
  refine lv_iconst (v := 1) hx hb dX7_inTable_6 (by decide) ?_
  refine lv_icmp_ne (tgt := 40) hx hb dX7_inTable_7 (by decide) (fun c2 => ?_) (fun c2 => ?_)
  · replace h := md_f c2 h
    refine lv_iload_n hx hb dX7_inTable_40 rfl (lv_at hl 4 rfl) ?_
    refine lv_if_ne (tgt := 55) hx hb dX7_inTable_41 (by decide) (fun c3 => ?_) (fun c3 => ?_)
    · replace h := md_f c3 h
      refine lv_iload_n hx hb dX7_inTable_55 rfl (lv_at hl 1 rfl) ?_
      refine lv_iconst (v := 3) hx hb dX7_inTable_56 (by decide) ?_
      refine lv_icmp_ne (tgt := 82) hx hb dX7_inTable_57 (by decide) (fun c4 => ?_) (fun c4 => ?_)
      · replace h := md_f c4 h
        refine lv_iload_n hx hb dX7_inTable_82 rfl (lv_at hl 4 rfl) ?_
        refine lv_iconst (v := 1) hx hb dX7_inTable_83 (by decide) ?_
        refine lv_icmp_ne (tgt := 92) hx hb dX7_inTable_84 (by decide) (fun c5 => ?_) (fun c5 => ?_)
        · replace h := md_f c5 h
          refine lv_iload_n hx hb dX7_inTable_92 rfl (lv_at hl 1 rfl) ?_
          refine lv_if_ne (tgt := 103) hx hb dX7_inTable_93 (by decide) (fun c6 => ?_) (fun c6 => ?_)
          · replace h := md_f c6 h
            refine lv_iload hx hb dX7_inTable_103 (lv_at hl 0 rfl) ?_
            refine lv_iload hx hb dX7_inTable_105 (lv_at hl 0 rfl) ?_
            refine lv_imul hx hb dX7_inTable_107 ?_
            exact hQ (x4_1 * x4_1) 108 ls h dX7_inTable_108
          replace h := md_t c6 h
          refine lv_iload_n hx hb dX7_inTable_96 rfl (lv_at hl 2 rfl) ?_
          refine lv_iload hx hb dX7_inTable_97 (lv_at hl 0 rfl) ?_
          refine lv_imul hx hb dX7_inTable_99 ?_
          refine lv_goto (tgt := 108) hx hb dX7_inTable_100 (by decide) ?_
          exact hQ (p2 * x4_1) 108 ls h dX7_inTable_108
        replace h := md_t c5 h
        refine lv_iload hx hb dX7_inTable_87 (lv_at hl 0 rfl) ?_
        refine lv_goto (tgt := 108) hx hb dX7_inTable_89 (by decide) ?_
        exact hQ x4_1 108 ls h dX7_inTable_108
      replace h := md_t c4 h
      refine lv_iload_n hx hb dX7_inTable_60 rfl (lv_at hl 4 rfl) ?_
      refine lv_iconst (v := 1) hx hb dX7_inTable_61 (by decide) ?_
      refine lv_icmp_ne (tgt := 73) hx hb dX7_inTable_62 (by decide) (fun c7 => ?_) (fun c7 => ?_)
      · replace h := md_f c7 h
        refine lv_iload hx hb dX7_inTable_73 (lv_at hl 0 rfl) ?_
        refine lv_iload hx hb dX7_inTable_75 (lv_at hl 0 rfl) ?_
        refine lv_imul hx hb dX7_inTable_77 ?_
        refine lv_iload hx hb dX7_inTable_78 (lv_at hl 0 rfl) ?_
        refine lv_imul hx hb dX7_inTable_80 ?_
        exact hQ ((x4_1 * x4_1) * x4_1) 81 ls h dX7_inTable_81
      replace h := md_t c7 h
      refine lv_iload hx hb dX7_inTable_65 (lv_at hl 0 rfl) ?_
      refine lv_iload hx hb dX7_inTable_67 (lv_at hl 0 rfl) ?_
      refine lv_imul hx hb dX7_inTable_69 ?_
      refine lv_goto (tgt := 81) hx hb dX7_inTable_70 (by decide) ?_
      exact hQ (x4_1 * x4_1) 81 ls h dX7_inTable_81
    replace h := md_t c3 h
    refine lv_iload_n hx hb dX7_inTable_44 rfl (lv_at hl 1 rfl) ?_
    refine lv_if_ne (tgt := 52) hx hb dX7_inTable_45 (by decide) (fun c8 => ?_) (fun c8 => ?_)
    · replace h := md_f c8 h
      refine lv_iload hx hb dX7_inTable_52 (lv_at hl 0 rfl) ?_
      exact hQ x4_1 54 ls h dX7_inTable_54
    replace h := md_t c8 h
    refine lv_iload_n hx hb dX7_inTable_48 rfl (lv_at hl 2 rfl) ?_
    refine lv_goto (tgt := 54) hx hb dX7_inTable_49 (by decide) ?_
    exact hQ p2 54 ls h dX7_inTable_54
  replace h := md_t c2 h
  refine lv_iload_n hx hb dX7_inTable_10 rfl (lv_at hl 4 rfl) ?_
  refine lv_if_ne (tgt := 21) hx hb dX7_inTable_11 (by decide) (fun c9 => ?_) (fun c9 => ?_)
  · replace h := md_f c9 h
    refine lv_iload_n hx hb dX7_inTable_21 rfl (lv_at hl 4 rfl) ?_
    refine lv_iconst (v := 1) hx hb dX7_inTable_22 (by decide) ?_
    refine lv_icmp_ne (tgt := 38) hx hb dX7_inTable_23 (by decide) (fun c10 => ?_) (fun c10 => ?_)
    · replace h := md_f c10 h
      refine lv_iconst (v := 1) hx hb dX7_inTable_38 (by decide) ?_
      exact hQ (1 : Int32) 39 ls h dX7_inTable_39
    replace h := md_t c10 h
    refine lv_iload_n hx hb dX7_inTable_26 rfl (lv_at hl 3 rfl) ?_
    obtain ⟨u11, hu11, h⟩ := md_b h
    refine kS C (ctX7_listAt l  hu11) gX7_inTable_X7_listAt rfl kdX7_listAt ⟨rfl, rfl⟩ ⟨by decide, by decide⟩ kT_blind (fun _ _ _ => trivial) rfl hl [] rfl (Nat.le_of_ble_eq_true rfl) dX7_inTable_27 ⟨by decide, by decide⟩ ?_
    refine lv_i2l hx hb dX7_inTable_30 rfl ?_
    obtain ⟨u12, hu12, h⟩ := md_b h
    refine kS C (ctX7_turnedOf l  hu12) gX7_inTable_X7_turnedOf rfl kdX7_turnedOf ⟨rfl, rfl⟩ ⟨by decide, by decide⟩ kT_blind (fun _ _ _ => trivial) rfl hl [] rfl (Nat.le_of_ble_eq_true rfl) dX7_inTable_31 ⟨by decide, by decide⟩ ?_
    refine lv_l2i hx hb dX7_inTable_34 rfl ?_
    refine lv_goto (tgt := 39) hx hb dX7_inTable_35 (by decide) ?_
    exact hQ (Int64.toInt32 u12) 39 ls h dX7_inTable_39
  replace h := md_t c9 h
  refine lv_iload_n hx hb dX7_inTable_14 rfl (lv_at hl 3 rfl) ?_
  obtain ⟨u13, hu13, h⟩ := md_b h
  refine kS C (ctX7_listAt l  hu13) gX7_inTable_X7_listAt rfl kdX7_listAt ⟨rfl, rfl⟩ ⟨by decide, by decide⟩ kT_blind (fun _ _ _ => trivial) rfl hl [] rfl (Nat.le_of_ble_eq_true rfl) dX7_inTable_15 ⟨by decide, by decide⟩ ?_
  refine lv_goto (tgt := 39) hx hb dX7_inTable_18 (by decide) ?_
  exact hQ u13 39 ls h dX7_inTable_39
set_option maxHeartbeats 4000000 in
theorem ctX7_inTable (l : Launch) {p1 : Int32} {p2 : Int32} {p3 : Int32} {p4 : Int32} {res : Int32} (hm : mX7_inTable p1 p2 p3 p4 = some res) : Met l yX7_inTable wsX7_inTable rmX7_inTable (va_Pc [.int p1, .int p2, .int p3, .int p4] (fun _ => True)) (kR (.int res)) 0 0 (fun _ => False) :=
  km (by decide) rfl (Nat.le_of_ble_eq_true rfl) (fun p e s m below meth c ls C hB hl => bX7_inTable C p1 p2 p3 p4 res (fun v pc ls h hd => kr_i C h hd) hm ls hl)
theorem kdX7_agree : yX7_agree.cls ≠ "java/lang/invoke/MethodHandle" ∧ yX7_agree.cls ≠ "java/lang/invoke/VarHandle" ∧ (parseMethodDescriptor yX7_agree.desc).map (fun d => d.parameters.length) = some 2 := by decide +kernel
abbrev rmX7_agree : Room := { frames := 1, cells := 0, slots := 0, locals := 23 }
def mX7_agree (p1 : Int32) (p2 : Int32) : Option Int32 := (if p1 = 0 then (some (1 : Int32)) else (if p2 = 0 then (some (1 : Int32)) else (Option.bind (mX7_sixtyOf (Int32.toInt64 p1)) (fun u3 => (Option.bind (mX7_sixtyOf (Int32.toInt64 p2)) (fun u4 => (if u3 = u4 then (some (1 : Int32)) else (some (0 : Int32)))))))))
set_option maxHeartbeats 4000000 in
set_option maxRecDepth 100000 in
theorem bX7_agree {p : Program} {l : Launch} {e : Env} {s : State} {m : MethodId} {args : Array Value} {below : List Frame} {meth : Method} {c : Code} {Q : State → Prop} (C : kc p s m args meth c cX7_agree 2 RX7 yX7_agree.name wsX7_agree (some .boolean)) (p1 : Int32) (p2 : Int32) (res : Int32) (hQ : ∀ (v : Int32) (pc : Nat) (ls : Array Slot), v = 0 ∨ v = 1 → some v = some res → decode cX7_agree pc = .ok (.ireturn, 1) → W p l e rmX7_agree s m args below meth c s.heap [] 0 0 Q (F0 m pc ls [.int v])) : mX7_agree p1 p2 = some res → ∀ (ls : Array Slot), lv_has ls 2 [(0, .int p1), (1, .int p2)] → W p l e rmX7_agree s m args below meth c s.heap [] 0 0 Q (F0 m 0 ls []) := by
  intro h ls hl
  have C0 := C
  obtain ⟨hx, hb, hml, hown, hts, hr, hlk, hnm⟩ := C0
  rw [mX7_agree] at h
  refine lv_iload_n hx hb dX7_agree_0 rfl (lv_at hl 0 rfl) ?_
  refine lv_if_eq (tgt := 22) hx hb dX7_agree_1 (by decide) (fun c1 => ?_) (fun c1 => ?_)
  · replace h := md_t c1 h
    refine lv_iconst (v := 1) hx hb dX7_agree_22 (by decide) ?_
    refine lv_goto (tgt := 27) hx hb dX7_agree_23 (by decide) ?_
    exact hQ (1 : Int32) 27 ls (by decide) h dX7_agree_27
  replace h := md_f c1 h
  refine lv_iload_n hx hb dX7_agree_4 rfl (lv_at hl 1 rfl) ?_
  refine lv_if_eq (tgt := 22) hx hb dX7_agree_5 (by decide) (fun c2 => ?_) (fun c2 => ?_)
  · replace h := md_t c2 h
    refine lv_iconst (v := 1) hx hb dX7_agree_22 (by decide) ?_
    refine lv_goto (tgt := 27) hx hb dX7_agree_23 (by decide) ?_
    exact hQ (1 : Int32) 27 ls (by decide) h dX7_agree_27
  replace h := md_f c2 h
  refine lv_iload_n hx hb dX7_agree_8 rfl (lv_at hl 0 rfl) ?_
  refine lv_i2l hx hb dX7_agree_9 rfl ?_
  obtain ⟨u3, hu3, h⟩ := md_b h
  refine kS C (ctX7_sixtyOf l  hu3) gX7_agree_X7_sixtyOf rfl kdX7_sixtyOf ⟨rfl, rfl⟩ ⟨by decide, by decide⟩ kT_blind (fun _ _ _ => trivial) rfl hl [] rfl (Nat.le_of_ble_eq_true rfl) dX7_agree_10 ⟨by decide, by decide⟩ ?_
  refine lv_iload_n hx hb dX7_agree_13 rfl (lv_at hl 1 rfl) ?_
  refine lv_i2l hx hb dX7_agree_14 rfl ?_
  obtain ⟨u4, hu4, h⟩ := md_b h
  refine kS C (ctX7_sixtyOf l  hu4) gX7_agree_X7_sixtyOf rfl kdX7_sixtyOf ⟨rfl, rfl⟩ ⟨by decide, by decide⟩ kT_blind (fun _ _ _ => trivial) rfl hl [.long u3] rfl (Nat.le_of_ble_eq_true rfl) dX7_agree_15 ⟨by decide, by decide⟩ ?_
  refine W.lcmp hx hb dX7_agree_18 ?_
  refine lv_if_ne (tgt := 26) hx hb dX7_agree_19 (by decide) (fun c5 => ?_) (fun c5 => ?_)
  · replace c5 := fun q9 => c5 ((lg_cmp_eq _ _).mpr q9)
    replace h := md_f c5 h
    refine lv_iconst (v := 0) hx hb dX7_agree_26 (by decide) ?_
    exact hQ (0 : Int32) 27 ls (by decide) h dX7_agree_27
  replace c5 := (lg_cmp_eq _ _).mp c5
  replace h := md_t c5 h
  refine lv_iconst (v := 1) hx hb dX7_agree_22 (by decide) ?_
  refine lv_goto (tgt := 27) hx hb dX7_agree_23 (by decide) ?_
  exact hQ (1 : Int32) 27 ls (by decide) h dX7_agree_27
set_option maxHeartbeats 4000000 in
theorem ctX7_agree (l : Launch) {p1 : Int32} {p2 : Int32} {res : Int32} (hm : mX7_agree p1 p2 = some res) : Met l yX7_agree wsX7_agree rmX7_agree (va_Pc [.int p1, .int p2] (fun _ => True)) (kR (.int res)) 0 0 (fun _ => False) :=
  km (by decide) rfl (Nat.le_of_ble_eq_true rfl) (fun p e s m below meth c ls C hB hl => bX7_agree C p1 p2 res (fun v pc ls hz h hd => kr_z C hz h hd) hm ls hl)
theorem kdX7_kindOf : yX7_kindOf.cls ≠ "java/lang/invoke/MethodHandle" ∧ yX7_kindOf.cls ≠ "java/lang/invoke/VarHandle" ∧ (parseMethodDescriptor yX7_kindOf.desc).map (fun d => d.parameters.length) = some 1 := by decide +kernel
abbrev rmX7_kindOf : Room := { frames := 0, cells := 0, slots := 0, locals := 0 }
def mX7_kindOf (p1 : Int32) : Option Int32 := (if (3481 : Int32) ≤ p1 then (if (3510 : Int32) ≤ p1 then (if (3569 : Int32) ≤ p1 then (some (3 : Int32)) else (some (2 : Int32))) else (some (1 : Int32))) else (some (0 : Int32)))
set_option maxHeartbeats 4000000 in
set_option maxRecDepth 100000 in
theorem bX7_kindOf {p : Program} {l : Launch} {e : Env} {s : State} {m : MethodId} {args : Array Value} {below : List Frame} {meth : Method} {c : Code} {Q : State → Prop} (C : kc p s m args meth c cX7_kindOf 1 RX7 yX7_kindOf.name wsX7_kindOf (some .int)) (p1 : Int32) (res : Int32) (hQ : ∀ (v : Int32) (pc : Nat) (ls : Array Slot), some v = some res → decode cX7_kindOf pc = .ok (.ireturn, 1) → W p l e rmX7_kindOf s m args below meth c s.heap [] 0 0 Q (F0 m pc ls [.int v])) : mX7_kindOf p1 = some res → ∀ (ls : Array Slot), lv_has ls 1 [(0, .int p1)] → W p l e rmX7_kindOf s m args below meth c s.heap [] 0 0 Q (F0 m 0 ls []) := by
  intro h ls hl
  have C0 := C
  obtain ⟨hx, hb, hml, hown, hts, hr, hlk, hnm⟩ := C0
  rw [mX7_kindOf] at h
  refine lv_iload_n hx hb dX7_kindOf_0 rfl (lv_at hl 0 rfl) ?_
  refine lv_sipush (v := 3481) hx hb dX7_kindOf_1 (by decide) ?_
  refine lv_icmp_ge (tgt := 11) hx hb dX7_kindOf_4 (by decide) (fun c1 => ?_) (fun c1 => ?_)
  · replace h := md_t c1 h
    refine lv_iload_n hx hb dX7_kindOf_11 rfl (lv_at hl 0 rfl) ?_
    refine lv_sipush (v := 3510) hx hb dX7_kindOf_12 (by decide) ?_
    refine lv_icmp_ge (tgt := 22) hx hb dX7_kindOf_15 (by decide) (fun c2 => ?_) (fun c2 => ?_)
    · replace h := md_t c2 h
      refine lv_iload_n hx hb dX7_kindOf_22 rfl (lv_at hl 0 rfl) ?_
      refine lv_sipush (v := 3569) hx hb dX7_kindOf_23 (by decide) ?_
      refine lv_icmp_ge (tgt := 33) hx hb dX7_kindOf_26 (by decide) (fun c3 => ?_) (fun c3 => ?_)
      · replace h := md_t c3 h
        refine lv_iconst (v := 3) hx hb dX7_kindOf_33 (by decide) ?_
        exact hQ (3 : Int32) 34 ls h dX7_kindOf_34
      replace h := md_f c3 h
      refine lv_iconst (v := 2) hx hb dX7_kindOf_29 (by decide) ?_
      refine lv_goto (tgt := 34) hx hb dX7_kindOf_30 (by decide) ?_
      exact hQ (2 : Int32) 34 ls h dX7_kindOf_34
    replace h := md_f c2 h
    refine lv_iconst (v := 1) hx hb dX7_kindOf_18 (by decide) ?_
    refine lv_goto (tgt := 34) hx hb dX7_kindOf_19 (by decide) ?_
    exact hQ (1 : Int32) 34 ls h dX7_kindOf_34
  replace h := md_f c1 h
  refine lv_iconst (v := 0) hx hb dX7_kindOf_7 (by decide) ?_
  refine lv_goto (tgt := 34) hx hb dX7_kindOf_8 (by decide) ?_
  exact hQ (0 : Int32) 34 ls h dX7_kindOf_34
set_option maxHeartbeats 4000000 in
theorem ctX7_kindOf (l : Launch) {p1 : Int32} {res : Int32} (hm : mX7_kindOf p1 = some res) : Met l yX7_kindOf wsX7_kindOf rmX7_kindOf (va_Pc [.int p1] (fun _ => True)) (kR (.int res)) 0 0 (fun _ => False) :=
  km (by decide) rfl (Nat.le_of_ble_eq_true rfl) (fun p e s m below meth c ls C hB hl => bX7_kindOf C p1 res (fun v pc ls h hd => kr_i C h hd) hm ls hl)
theorem kdX7_nOf : yX7_nOf.cls ≠ "java/lang/invoke/MethodHandle" ∧ yX7_nOf.cls ≠ "java/lang/invoke/VarHandle" ∧ (parseMethodDescriptor yX7_nOf.desc).map (fun d => d.parameters.length) = some 1 := by decide +kernel
abbrev rmX7_nOf : Room := { frames := 0, cells := 0, slots := 0, locals := 0 }
def mX7_nOf (p1 : Int32) : Option Int32 := (if (3481 : Int32) ≤ p1 then (some (0 : Int32)) else (some ((p1 / (59 : Int32)) + (1 : Int32))))
set_option maxHeartbeats 4000000 in
set_option maxRecDepth 100000 in
theorem bX7_nOf {p : Program} {l : Launch} {e : Env} {s : State} {m : MethodId} {args : Array Value} {below : List Frame} {meth : Method} {c : Code} {Q : State → Prop} (C : kc p s m args meth c cX7_nOf 1 RX7 yX7_nOf.name wsX7_nOf (some .int)) (p1 : Int32) (res : Int32) (hQ : ∀ (v : Int32) (pc : Nat) (ls : Array Slot), some v = some res → decode cX7_nOf pc = .ok (.ireturn, 1) → W p l e rmX7_nOf s m args below meth c s.heap [] 0 0 Q (F0 m pc ls [.int v])) : mX7_nOf p1 = some res → ∀ (ls : Array Slot), lv_has ls 1 [(0, .int p1)] → W p l e rmX7_nOf s m args below meth c s.heap [] 0 0 Q (F0 m 0 ls []) := by
  intro h ls hl
  have C0 := C
  obtain ⟨hx, hb, hml, hown, hts, hr, hlk, hnm⟩ := C0
  rw [mX7_nOf] at h
  refine lv_iload_n hx hb dX7_nOf_0 rfl (lv_at hl 0 rfl) ?_
  refine lv_sipush (v := 3481) hx hb dX7_nOf_1 (by decide) ?_
  refine lv_icmp_ge (tgt := 16) hx hb dX7_nOf_4 (by decide) (fun c1 => ?_) (fun c1 => ?_)
  · replace h := md_t c1 h
    refine lv_iconst (v := 0) hx hb dX7_nOf_16 (by decide) ?_
    exact hQ (0 : Int32) 17 ls h dX7_nOf_17
  replace h := md_f c1 h
  refine lv_iload_n hx hb dX7_nOf_7 rfl (lv_at hl 0 rfl) ?_
  refine lv_bipush (v := 59) hx hb dX7_nOf_8 (by decide) ?_
  refine lv_idiv hx hb dX7_nOf_10 (by decide) ?_
  refine lv_iconst (v := 1) hx hb dX7_nOf_11 (by decide) ?_
  refine lv_iadd hx hb dX7_nOf_12 ?_
  refine lv_goto (tgt := 17) hx hb dX7_nOf_13 (by decide) ?_
  exact hQ ((p1 / (59 : Int32)) + (1 : Int32)) 17 ls h dX7_nOf_17
set_option maxHeartbeats 4000000 in
theorem ctX7_nOf (l : Launch) {p1 : Int32} {res : Int32} (hm : mX7_nOf p1 = some res) : Met l yX7_nOf wsX7_nOf rmX7_nOf (va_Pc [.int p1] (fun _ => True)) (kR (.int res)) 0 0 (fun _ => False) :=
  km (by decide) rfl (Nat.le_of_ble_eq_true rfl) (fun p e s m below meth c ls C hB hl => bX7_nOf C p1 res (fun v pc ls h hd => kr_i C h hd) hm ls hl)
theorem kdX7_firstOf : yX7_firstOf.cls ≠ "java/lang/invoke/MethodHandle" ∧ yX7_firstOf.cls ≠ "java/lang/invoke/VarHandle" ∧ (parseMethodDescriptor yX7_firstOf.desc).map (fun d => d.parameters.length) = some 1 := by decide +kernel
abbrev rmX7_firstOf : Room := { frames := 0, cells := 0, slots := 0, locals := 0 }
def mX7_firstOf (p1 : Int32) : Option Int32 := (if (3481 : Int32) ≤ p1 then (if (3510 : Int32) ≤ p1 then (if (3569 : Int32) ≤ p1 then (some (p1 - (3569 : Int32))) else (some (p1 - (3510 : Int32)))) else (some (p1 - (3481 : Int32)))) else (some (p1 - p1 / (59 : Int32) * (59 : Int32))))
set_option maxHeartbeats 4000000 in
set_option maxRecDepth 100000 in
theorem bX7_firstOf {p : Program} {l : Launch} {e : Env} {s : State} {m : MethodId} {args : Array Value} {below : List Frame} {meth : Method} {c : Code} {Q : State → Prop} (C : kc p s m args meth c cX7_firstOf 1 RX7 yX7_firstOf.name wsX7_firstOf (some .int)) (p1 : Int32) (res : Int32) (hQ : ∀ (v : Int32) (pc : Nat) (ls : Array Slot), some v = some res → decode cX7_firstOf pc = .ok (.ireturn, 1) → W p l e rmX7_firstOf s m args below meth c s.heap [] 0 0 Q (F0 m pc ls [.int v])) : mX7_firstOf p1 = some res → ∀ (ls : Array Slot), lv_has ls 1 [(0, .int p1)] → W p l e rmX7_firstOf s m args below meth c s.heap [] 0 0 Q (F0 m 0 ls []) := by
  intro h ls hl
  have C0 := C
  obtain ⟨hx, hb, hml, hown, hts, hr, hlk, hnm⟩ := C0
  rw [mX7_firstOf] at h
  refine lv_iload_n hx hb dX7_firstOf_0 rfl (lv_at hl 0 rfl) ?_
  refine lv_sipush (v := 3481) hx hb dX7_firstOf_1 (by decide) ?_
  refine lv_icmp_ge (tgt := 14) hx hb dX7_firstOf_4 (by decide) (fun c1 => ?_) (fun c1 => ?_)
  · replace h := md_t c1 h
    refine lv_iload_n hx hb dX7_firstOf_14 rfl (lv_at hl 0 rfl) ?_
    refine lv_sipush (v := 3510) hx hb dX7_firstOf_15 (by decide) ?_
    refine lv_icmp_ge (tgt := 29) hx hb dX7_firstOf_18 (by decide) (fun c2 => ?_) (fun c2 => ?_)
    · replace h := md_t c2 h
      refine lv_iload_n hx hb dX7_firstOf_29 rfl (lv_at hl 0 rfl) ?_
      refine lv_sipush (v := 3569) hx hb dX7_firstOf_30 (by decide) ?_
      refine lv_icmp_ge (tgt := 44) hx hb dX7_firstOf_33 (by decide) (fun c3 => ?_) (fun c3 => ?_)
      · replace h := md_t c3 h
        refine lv_iload_n hx hb dX7_firstOf_44 rfl (lv_at hl 0 rfl) ?_
        refine lv_sipush (v := 3569) hx hb dX7_firstOf_45 (by decide) ?_
        refine lv_isub hx hb dX7_firstOf_48 ?_
        exact hQ (p1 - (3569 : Int32)) 49 ls h dX7_firstOf_49
      replace h := md_f c3 h
      refine lv_iload_n hx hb dX7_firstOf_36 rfl (lv_at hl 0 rfl) ?_
      refine lv_sipush (v := 3510) hx hb dX7_firstOf_37 (by decide) ?_
      refine lv_isub hx hb dX7_firstOf_40 ?_
      refine lv_goto (tgt := 49) hx hb dX7_firstOf_41 (by decide) ?_
      exact hQ (p1 - (3510 : Int32)) 49 ls h dX7_firstOf_49
    replace h := md_f c2 h
    refine lv_iload_n hx hb dX7_firstOf_21 rfl (lv_at hl 0 rfl) ?_
    refine lv_sipush (v := 3481) hx hb dX7_firstOf_22 (by decide) ?_
    refine lv_isub hx hb dX7_firstOf_25 ?_
    refine lv_goto (tgt := 49) hx hb dX7_firstOf_26 (by decide) ?_
    exact hQ (p1 - (3481 : Int32)) 49 ls h dX7_firstOf_49
  replace h := md_f c1 h
  refine lv_iload_n hx hb dX7_firstOf_7 rfl (lv_at hl 0 rfl) ?_
  refine lv_bipush (v := 59) hx hb dX7_firstOf_8 (by decide) ?_
  refine lv_irem hx hb dX7_firstOf_10 (by decide) ?_
  refine lv_goto (tgt := 49) hx hb dX7_firstOf_11 (by decide) ?_
  exact hQ (p1 - p1 / (59 : Int32) * (59 : Int32)) 49 ls h dX7_firstOf_49
set_option maxHeartbeats 4000000 in
theorem ctX7_firstOf (l : Launch) {p1 : Int32} {res : Int32} (hm : mX7_firstOf p1 = some res) : Met l yX7_firstOf wsX7_firstOf rmX7_firstOf (va_Pc [.int p1] (fun _ => True)) (kR (.int res)) 0 0 (fun _ => False) :=
  km (by decide) rfl (Nat.le_of_ble_eq_true rfl) (fun p e s m below meth c ls C hB hl => bX7_firstOf C p1 res (fun v pc ls h hd => kr_i C h hd) hm ls hl)
theorem kdX7_common : yX7_common.cls ≠ "java/lang/invoke/MethodHandle" ∧ yX7_common.cls ≠ "java/lang/invoke/VarHandle" ∧ (parseMethodDescriptor yX7_common.desc).map (fun d => d.parameters.length) = some 2 := by decide +kernel
abbrev rmX7_common : Room := { frames := 0, cells := 0, slots := 0, locals := 0 }
def mlX7_common_4 (kE : Int32 → Option Int32) : Nat → Int32 → Int32 → Option Int32
  | 0, _, _ => none
  | n + 1, x2, x3 => (if x3 = 0 then (kE x2) else (if x3 = 0 then none else (md_let (x2 - x2 / x3 * x3) (fun (x4_3 : Int32) => (mlX7_common_4 kE n x3 x4_3)))))
set_option maxHeartbeats 4000000 in
set_option maxRecDepth 100000 in
theorem lX7_common_4 {p : Program} {l : Launch} {e : Env} {s : State} {m : MethodId} {args : Array Value} {below : List Frame} {meth : Method} {c : Code} {Q : State → Prop} (C : kc p s m args meth c cX7_common 5 RX7 yX7_common.name wsX7_common (some .int)) (res : Int32) (hQ : ∀ (v : Int32) (pc : Nat) (ls : Array Slot), some v = some res → decode cX7_common pc = .ok (.ireturn, 1) → W p l e rmX7_common s m args below meth c s.heap [] 0 0 Q (F0 m pc ls [.int v])) (kE : Int32 → Option Int32) (hE : ∀ (y2 : Int32), kE y2 = some res → ∀ (ls : Array Slot), lv_has ls 5 [(2, .int y2)] → W p l e rmX7_common s m args below meth c s.heap [] 0 0 Q (F0 m 21 ls [])) : ∀ (n : Nat), ∀ (x2 : Int32) (x3 : Int32), mlX7_common_4 kE n x2 x3 = some res → ∀ (ls : Array Slot), lv_has ls 5 [(2, .int x2), (3, .int x3)] → W p l e rmX7_common s m args below meth c s.heap [] 0 0 Q (F0 m 4 ls []) := by
  have C0 := C
  obtain ⟨hx, hb, hml, hown, hts, hr, hlk, hnm⟩ := C0
  intro n
  induction n with
  | zero => intro _ _ h; exact md_x h
  | succ n ih =>
    intro x2 x3 h ls hl
    rw [mlX7_common_4] at h
    refine lv_iload_n hx hb dX7_common_4 rfl (lv_at hl 1 rfl) ?_
    refine lv_if_eq (tgt := 21) hx hb dX7_common_5 (by decide) (fun c1 => ?_) (fun c1 => ?_)
    · replace h := md_t c1 h
      exact hE x2 h ls (lv_sub hl [0] rfl)
    replace h := md_f c1 h
    refine lv_iload_n hx hb dX7_common_8 rfl (lv_at hl 0 rfl) ?_
    refine lv_iload_n hx hb dX7_common_9 rfl (lv_at hl 1 rfl) ?_
    obtain ⟨hz2, h⟩ := md_g h
    refine lv_irem hx hb dX7_common_10 hz2 ?_
    refine lv_topi (fun x4_3 ex4_3 => ?_)
    replace h := md_le ex4_3 h
    refine lv_istore (lv' := [(4, .int x4_3), (2, .int x2), (3, .int x3)]) hx hb dX7_common_11 hl (by decide) rfl (fun ls hl => ?_)
    refine lv_iload_n hx hb dX7_common_13 rfl (lv_at hl 2 rfl) ?_
    refine lv_istore_n (lv' := [(2, .int x3), (4, .int x4_3), (3, .int x3)]) hx hb dX7_common_14 rfl hl (by decide) rfl (fun ls hl => ?_)
    refine lv_iload hx hb dX7_common_15 (lv_at hl 1 rfl) ?_
    refine lv_istore_n (lv' := [(3, .int x4_3), (2, .int x3), (4, .int x4_3)]) hx hb dX7_common_17 rfl hl (by decide) rfl (fun ls hl => ?_)
    refine lv_goto (tgt := 4) hx hb dX7_common_18 (by decide) ?_
    exact ih x3 x4_3 h ls (lv_sub hl [1, 0] rfl)
def mX7_common (p1 : Int32) (p2 : Int32) : Option Int32 := (mlX7_common_4 (fun (y2_21 : Int32) => (some y2_21)) kN p1 p2)
set_option maxHeartbeats 4000000 in
set_option maxRecDepth 100000 in
theorem bX7_common {p : Program} {l : Launch} {e : Env} {s : State} {m : MethodId} {args : Array Value} {below : List Frame} {meth : Method} {c : Code} {Q : State → Prop} (C : kc p s m args meth c cX7_common 5 RX7 yX7_common.name wsX7_common (some .int)) (p1 : Int32) (p2 : Int32) (res : Int32) (hQ : ∀ (v : Int32) (pc : Nat) (ls : Array Slot), some v = some res → decode cX7_common pc = .ok (.ireturn, 1) → W p l e rmX7_common s m args below meth c s.heap [] 0 0 Q (F0 m pc ls [.int v])) : mX7_common p1 p2 = some res → ∀ (ls : Array Slot), lv_has ls 5 [(0, .int p1), (1, .int p2)] → W p l e rmX7_common s m args below meth c s.heap [] 0 0 Q (F0 m 0 ls []) := by
  intro h ls hl
  have C0 := C
  obtain ⟨hx, hb, hml, hown, hts, hr, hlk, hnm⟩ := C0
  rw [mX7_common] at h
  refine lv_iload_n hx hb dX7_common_0 rfl (lv_at hl 0 rfl) ?_
  refine lv_istore_n (lv' := [(2, .int p1), (0, .int p1), (1, .int p2)]) hx hb dX7_common_1 rfl hl (by decide) rfl (fun ls hl => ?_)
  refine lv_iload_n hx hb dX7_common_2 rfl (lv_at hl 2 rfl) ?_
  refine lv_istore_n (lv' := [(3, .int p2), (2, .int p1), (0, .int p1), (1, .int p2)]) hx hb dX7_common_3 rfl hl (by decide) rfl (fun ls hl => ?_)
  refine lX7_common_4 C res hQ _ (fun y2_21 h ls hl => ?_) kN p1 p2 h ls (lv_sub hl [1, 0] rfl)
  refine lv_iload_n hx hb dX7_common_21 rfl (lv_at hl 0 rfl) ?_
  exact hQ y2_21 22 ls h dX7_common_22
set_option maxHeartbeats 4000000 in
theorem ctX7_common (l : Launch) {p1 : Int32} {p2 : Int32} {res : Int32} (hm : mX7_common p1 p2 = some res) : Met l yX7_common wsX7_common rmX7_common (va_Pc [.int p1, .int p2] (fun _ => True)) (kR (.int res)) 0 0 (fun _ => False) :=
  km (by decide) rfl (Nat.le_of_ble_eq_true rfl) (fun p e s m below meth c ls C hB hl => bX7_common C p1 p2 res (fun v pc ls h hd => kr_i C h hd) hm ls hl)
theorem wm_X7_isCount_0 : Cond.constantLong RX7 204 (1000000) ∈ wsX7_isCount := by decide +kernel
theorem kdX7_isCount : yX7_isCount.cls ≠ "java/lang/invoke/MethodHandle" ∧ yX7_isCount.cls ≠ "java/lang/invoke/VarHandle" ∧ (parseMethodDescriptor yX7_isCount.desc).map (fun d => d.parameters.length) = some 1 := by decide +kernel
abbrev rmX7_isCount : Room := { frames := 1, cells := 0, slots := 0, locals := 25 }
def mX7_isCount (p1 : Int32) : Option Int32 := (Option.bind (mX7_in (Int32.toInt64 p1) (1 : Int64) (1000000 : Int64)) (fun u1 => (if u1 = 0 ∨ u1 = 1 then (some u1) else none)))
set_option maxHeartbeats 4000000 in
set_option maxRecDepth 100000 in
theorem bX7_isCount {p : Program} {l : Launch} {e : Env} {s : State} {m : MethodId} {args : Array Value} {below : List Frame} {meth : Method} {c : Code} {Q : State → Prop} (C : kc p s m args meth c cX7_isCount 1 RX7 yX7_isCount.name wsX7_isCount (some .boolean)) (p1 : Int32) (res : Int32) (hQ : ∀ (v : Int32) (pc : Nat) (ls : Array Slot), v = 0 ∨ v = 1 → some v = some res → decode cX7_isCount pc = .ok (.ireturn, 1) → W p l e rmX7_isCount s m args below meth c s.heap [] 0 0 Q (F0 m pc ls [.int v])) : mX7_isCount p1 = some res → ∀ (ls : Array Slot), lv_has ls 1 [(0, .int p1)] → W p l e rmX7_isCount s m args below meth c s.heap [] 0 0 Q (F0 m 0 ls []) := by
  intro h ls hl
  have C0 := C
  obtain ⟨hx, hb, hml, hown, hts, hr, hlk, hnm⟩ := C0
  rw [mX7_isCount] at h
  refine lv_iload_n hx hb dX7_isCount_0 rfl (lv_at hl 0 rfl) ?_
  refine lv_i2l hx hb dX7_isCount_1 rfl ?_
  refine lv_lconst (v := 1) hx hb dX7_isCount_2 (by decide) ?_
  refine lv_ldc2 hx hb hown (hts _ wm_X7_isCount_0) dX7_isCount_3 ?_
  obtain ⟨u1, hu1, h⟩ := md_b h
  refine kS C (ctX7_in l  hu1) gX7_isCount_X7_in rfl kdX7_in ⟨rfl, rfl⟩ ⟨by decide, by decide⟩ kT_blind (fun _ _ _ => trivial) rfl hl [] rfl (Nat.le_of_ble_eq_true rfl) dX7_isCount_6 ⟨by decide, by decide⟩ ?_
  obtain ⟨hz2, h⟩ := md_z h
  exact hQ u1 9 ls hz2 h dX7_isCount_9
set_option maxHeartbeats 4000000 in
theorem ctX7_isCount (l : Launch) {p1 : Int32} {res : Int32} (hm : mX7_isCount p1 = some res) : Met l yX7_isCount wsX7_isCount rmX7_isCount (va_Pc [.int p1] (fun _ => True)) (kR (.int res)) 0 0 (fun _ => False) :=
  km (by decide) rfl (Nat.le_of_ble_eq_true rfl) (fun p e s m below meth c ls C hB hl => bX7_isCount C p1 res (fun v pc ls hz h hd => kr_z C hz h hd) hm ls hl)
theorem wm_X7_problem_0 : Cond.constantLong RX7 206 (5) ∈ wsX7_problem := by decide +kernel
theorem wm_X7_problem_1 : Cond.constantLong RX7 57 (-1000000000000000002) ∈ wsX7_problem := by decide +kernel
theorem wm_X7_problem_2 : Cond.constantLong RX7 94 (-1000000000000000005) ∈ wsX7_problem := by decide +kernel
theorem wm_X7_problem_3 : Cond.constantLong RX7 99 (2) ∈ wsX7_problem := by decide +kernel
theorem wm_X7_problem_4 : Cond.constantLong RX7 211 (4) ∈ wsX7_problem := by decide +kernel
theorem wm_X7_problem_5 : Cond.constantLong RX7 37 (167961599999999) ∈ wsX7_problem := by decide +kernel
theorem wm_X7_problem_6 : Cond.constantLong RX7 70 (-1) ∈ wsX7_problem := by decide +kernel
theorem kdvX7_problem : yX7_problem.cls = RX7 ∧ yX7_problem.cls ≠ "java/lang/invoke/MethodHandle" ∧ yX7_problem.cls ≠ "java/lang/invoke/VarHandle" ∧ (parseMethodDescriptor yX7_problem.desc).map (fun d => d.parameters.length) = some 4 := by decide +kernel
abbrev rmX7_problem : Room := { frames := 2, cells := 0, slots := 0, locals := 57 }
def mX7_problem (p1 : Int32) (p2 : Int32) (p3 : Int32) (p4 : Int32) : Option Int64 := (Option.bind (mX7_in (Int32.toInt64 p1) (0 : Int64) (5 : Int64)) (fun u1 => (if u1 = 0 then (some (-1000000000000000002 : Int64)) else (Option.bind (mX7_isCount p2) (fun u3 => (if u3 = 0 then (some (-1000000000000000002 : Int64)) else (Option.bind (mX7_isCount p3) (fun u5 => (if u5 = 0 then (some (-1000000000000000002 : Int64)) else (Option.bind (mX7_in (Int32.toInt64 p4) (0 : Int64) (1 : Int64)) (fun u7 => (if u7 = 0 then (some (-1000000000000000002 : Int64)) else (md_jn (fun (x5_305 : Int64) (x7_305 : Int64) => (if (0 : Int64) < x5_305 then (if p4 = 0 then (some x5_305) else (some x7_305)) else (some (-1000000000000000005 : Int64)))) (fun kJ305 => (md_jn (fun (u_56 : Unit) => (md_let ((Int32.toInt64 p2) * (Int32.toInt64 p3)) (fun (x5_11 : Int64) => (kJ305 x5_11 (0 : Int64))))) (fun kJ56 => (if p1 = 0 then (kJ56 ()) else (if p1 = (5 : Int32) then (kJ56 ()) else (if p1 = (1 : Int32) then (Option.bind (mX7_isEven (Int32.toInt64 p3)) (fun u28 => (md_jn (fun (z0_90 : Int64) => (Option.bind (mX7_sixtyOf (Int32.toInt64 p2)) (fun u29 => (md_jn (fun (z0_130 : Int64) => (kJ305 z0_130 (0 : Int64))) (fun kJ130 => (md_jn (fun (u_118 : Unit) => (kJ130 (0 : Int64))) (fun kJ118 => (if z0_90 < (0 : Int64) then (kJ118 ()) else (if u29 = 0 then none else (if z0_90 ≤ ((167961599999999 : Int64) / u29) then (Option.bind (mX7_sixtyOf (u29 * z0_90)) (fun u33 => (kJ130 u33))) else (kJ118 ()))))))))))) (fun kJ90 => (if u28 = 0 then (kJ90 (-1 : Int64)) else (Option.bind (mX7_turnedOf (Int32.toInt64 p3)) (fun u35 => (kJ90 u35)))))))) else (if p1 = (2 : Int32) then (Option.bind (mX7_whole (Int32.toInt64 p2)) (fun u26 => (md_jn (fun (z0_164 : Int64) => (kJ305 z0_164 (0 : Int64))) (fun kJ164 => (if (u26 * u26) = (Int32.toInt64 p2) then (kJ164 u26) else (kJ164 (0 : Int64))))))) else (md_jn (fun (z0_201 : Int64) => (md_jn (fun (z0_219 : Int64) => (md_jn (fun (z0_239 : Int64) => (if z0_201 < (0 : Int64) then (kJ305 (0 : Int64) (0 : Int64)) else (if (z0_219 * z0_219) = z0_201 then (if z0_239 ≤ (0 : Int64) then (kJ305 (0 : Int64) (0 : Int64)) else (if (z0_239 - z0_239 / (2 : Int64) * (2 : Int64)) = (0 : Int64) then (md_let (z0_239 / (2 : Int64)) (fun (x7_20 : Int64) => (md_jn (fun (z0_303 : Int64) => (kJ305 z0_303 x7_20)) (fun kJ303 => (if p1 = (3 : Int32) then (kJ303 ((Int32.toInt64 p2) - x7_20)) else (kJ303 ((Int32.toInt64 p2) + x7_20))))))) else (kJ305 (0 : Int64) (0 : Int64)))) else (kJ305 (0 : Int64) (0 : Int64))))) (fun kJ239 => (if p1 = (3 : Int32) then (kJ239 ((Int32.toInt64 p2) - z0_219)) else (kJ239 (z0_219 - (Int32.toInt64 p2))))))) (fun kJ219 => (if (0 : Int64) ≤ z0_201 then (Option.bind (mX7_whole z0_201) (fun u24 => (kJ219 u24))) else (kJ219 (0 : Int64)))))) (fun kJ201 => (if p1 = (3 : Int32) then (kJ201 (((Int32.toInt64 p2) * (Int32.toInt64 p2)) - ((4 : Int64) * (Int32.toInt64 p3)))) else (kJ201 (((Int32.toInt64 p2) * (Int32.toInt64 p2)) + ((4 : Int64) * (Int32.toInt64 p3)))))))))))))))))))))))))))
set_option maxHeartbeats 4000000 in
set_option maxRecDepth 100000 in
theorem bX7_problem {p : Program} {l : Launch} {e : Env} {s : State} {m : MethodId} {args : Array Value} {below : List Frame} {meth : Method} {c : Code} {Q : State → Prop} (C : kc p s m args meth c cX7_problem 15 RX7 yX7_problem.name wsX7_problem (some .long)) {mo : Nat} (p1 : Int32) (p2 : Int32) (p3 : Int32) (p4 : Int32) (res : Int64) (hQ : ∀ (v : Int64) (pc : Nat) (ls : Array Slot), some v = some res → decode cX7_problem pc = .ok (.lreturn, 1) → W p l e rmX7_problem s m args below meth c s.heap [] 0 0 Q (F0 m pc ls [.long v])) : mX7_problem p1 p2 p3 p4 = some res → ∀ (ls : Array Slot), lv_has ls 15 [(0, .ref mo), (1, .int p1), (2, .int p2), (3, .int p3), (4, .int p4)] → W p l e rmX7_problem s m args below meth c s.heap [] 0 0 Q (F0 m 0 ls []) := by
  intro h ls hl
  have C0 := C
  obtain ⟨hx, hb, hml, hown, hts, hr, hlk, hnm⟩ := C0
  rw [mX7_problem] at h
  refine lv_iload_n hx hb dX7_problem_0 rfl (lv_at hl 1 rfl) ?_
  refine lv_i2l hx hb dX7_problem_1 rfl ?_
  refine lv_lconst (v := 0) hx hb dX7_problem_2 (by decide) ?_
  refine lv_ldc2 hx hb hown (hts _ wm_X7_problem_0) dX7_problem_3 ?_
  obtain ⟨u1, hu1, h⟩ := md_b h
  refine kS C (ctX7_in l  hu1) gX7_problem_X7_in rfl kdX7_in ⟨rfl, rfl⟩ ⟨by decide, by decide⟩ kT_blind (fun _ _ _ => trivial) rfl hl [] rfl (Nat.le_of_ble_eq_true rfl) dX7_problem_6 ⟨by decide, by decide⟩ ?_
  refine lv_if_eq (tgt := 37) hx hb dX7_problem_9 (by decide) (fun c2 => ?_) (fun c2 => ?_)
  · replace h := md_t c2 h
    refine lv_ldc2 hx hb hown (hts _ wm_X7_problem_1) dX7_problem_37 ?_
    exact hQ (-1000000000000000002 : Int64) 40 ls h dX7_problem_40
  replace h := md_f c2 h
  refine lv_iload_n hx hb dX7_problem_12 rfl (lv_at hl 2 rfl) ?_
  obtain ⟨u3, hu3, h⟩ := md_b h
  refine kS C (ctX7_isCount l  hu3) gX7_problem_X7_isCount rfl kdX7_isCount ⟨rfl, rfl⟩ ⟨by decide, by decide⟩ kT_blind (fun _ _ _ => trivial) rfl hl [] rfl (Nat.le_of_ble_eq_true rfl) dX7_problem_13 ⟨by decide, by decide⟩ ?_
  refine lv_if_eq (tgt := 37) hx hb dX7_problem_16 (by decide) (fun c4 => ?_) (fun c4 => ?_)
  · replace h := md_t c4 h
    refine lv_ldc2 hx hb hown (hts _ wm_X7_problem_1) dX7_problem_37 ?_
    exact hQ (-1000000000000000002 : Int64) 40 ls h dX7_problem_40
  replace h := md_f c4 h
  refine lv_iload_n hx hb dX7_problem_19 rfl (lv_at hl 3 rfl) ?_
  obtain ⟨u5, hu5, h⟩ := md_b h
  refine kS C (ctX7_isCount l  hu5) gX7_problem_X7_isCount rfl kdX7_isCount ⟨rfl, rfl⟩ ⟨by decide, by decide⟩ kT_blind (fun _ _ _ => trivial) rfl hl [] rfl (Nat.le_of_ble_eq_true rfl) dX7_problem_20 ⟨by decide, by decide⟩ ?_
  refine lv_if_eq (tgt := 37) hx hb dX7_problem_23 (by decide) (fun c6 => ?_) (fun c6 => ?_)
  · replace h := md_t c6 h
    refine lv_ldc2 hx hb hown (hts _ wm_X7_problem_1) dX7_problem_37 ?_
    exact hQ (-1000000000000000002 : Int64) 40 ls h dX7_problem_40
  replace h := md_f c6 h
  refine lv_iload hx hb dX7_problem_26 (lv_at hl 4 rfl) ?_
  refine lv_i2l hx hb dX7_problem_28 rfl ?_
  refine lv_lconst (v := 0) hx hb dX7_problem_29 (by decide) ?_
  refine lv_lconst (v := 1) hx hb dX7_problem_30 (by decide) ?_
  obtain ⟨u7, hu7, h⟩ := md_b h
  refine kS C (ctX7_in l  hu7) gX7_problem_X7_in rfl kdX7_in ⟨rfl, rfl⟩ ⟨by decide, by decide⟩ kT_blind (fun _ _ _ => trivial) rfl hl [] rfl (Nat.le_of_ble_eq_true rfl) dX7_problem_31 ⟨by decide, by decide⟩ ?_
  refine lv_if_ne (tgt := 41) hx hb dX7_problem_34 (by decide) (fun c8 => ?_) (fun c8 => ?_)
  · replace h := md_f c8 h
    refine lv_lconst (v := 0) hx hb dX7_problem_41 (by decide) ?_
    refine lv_lstore (lv' := [(5, .long (0 : Int64)), (0, .ref mo), (1, .int p1), (2, .int p2), (3, .int p3), (4, .int p4)]) hx hb dX7_problem_42 hl (by decide) rfl (fun ls hl => ?_)
    refine lv_lconst (v := 0) hx hb dX7_problem_44 (by decide) ?_
    refine lv_lstore (lv' := [(7, .long (0 : Int64)), (5, .long (0 : Int64)), (0, .ref mo), (1, .int p1), (2, .int p2), (3, .int p3), (4, .int p4)]) hx hb dX7_problem_45 hl (by decide) rfl (fun ls hl => ?_)
    refine lv_iload_n hx hb dX7_problem_47 rfl (lv_at hl 3 rfl) ?_
    obtain ⟨kJ305, ekJ305, h⟩ := md_jo h
    have KJ305 : ∀ (x5_305 : Int64) (x7_305 : Int64), kJ305 x5_305 x7_305 = some res → ∀ (ls : Array Slot), lv_has ls 15 [(4, .int p4), (5, .long x5_305), (7, .long x7_305)] → W p l e rmX7_problem s m args below meth c s.heap [] 0 0 Q (F0 m 305 ls []) := by
      intro x5_305 x7_305 h ls hl
      rw [ekJ305] at h
      refine lv_lload hx hb dX7_problem_305 (lv_at hl 1 rfl) ?_
      refine lv_lconst (v := 0) hx hb dX7_problem_307 (by decide) ?_
      refine W.lcmp hx hb dX7_problem_308 ?_
      refine lv_if_gt (tgt := 318) hx hb dX7_problem_309 (by decide) (fun c9 => ?_) (fun c9 => ?_)
      · replace c9 := (lg_cmp_gt _ _).mp c9
        replace h := md_t c9 h
        refine lv_iload hx hb dX7_problem_318 (lv_at hl 0 rfl) ?_
        refine lv_if_ne (tgt := 328) hx hb dX7_problem_320 (by decide) (fun c10 => ?_) (fun c10 => ?_)
        · replace h := md_f c10 h
          refine lv_lload hx hb dX7_problem_328 (lv_at hl 2 rfl) ?_
          exact hQ x7_305 330 ls h dX7_problem_330
        replace h := md_t c10 h
        refine lv_lload hx hb dX7_problem_323 (lv_at hl 1 rfl) ?_
        refine lv_goto (tgt := 330) hx hb dX7_problem_325 (by decide) ?_
        exact hQ x5_305 330 ls h dX7_problem_330
      replace c9 := fun q9 => c9 ((lg_cmp_gt _ _).mpr q9)
      replace h := md_f c9 h
      refine lv_ldc2 hx hb hown (hts _ wm_X7_problem_2) dX7_problem_312 ?_
      refine lv_goto (tgt := 330) hx hb dX7_problem_315 (by decide) ?_
      exact hQ (-1000000000000000005 : Int64) 330 ls h dX7_problem_330
    clear ekJ305
    obtain ⟨kJ56, ekJ56, h⟩ := md_jo h
    have KJ56 : ∀ (u_56 : Unit), kJ56 u_56 = some res → ∀ (ls : Array Slot), lv_has ls 15 [(2, .int p2), (3, .int p3), (4, .int p4), (7, .long (0 : Int64))] → W p l e rmX7_problem s m args below meth c s.heap [] 0 0 Q (F0 m 56 ls []) := by
      intro u_56 h ls hl
      rw [ekJ56] at h
      refine lv_iload_n hx hb dX7_problem_56 rfl (lv_at hl 0 rfl) ?_
      refine lv_i2l hx hb dX7_problem_57 rfl ?_
      refine lv_iload_n hx hb dX7_problem_58 rfl (lv_at hl 1 rfl) ?_
      refine lv_i2l hx hb dX7_problem_59 rfl ?_
      refine lv_lmul hx hb dX7_problem_60 ?_
      refine lv_topl (fun x5_11 ex5_11 => ?_)
      replace h := md_le ex5_11 h
      refine lv_lstore (lv' := [(5, .long x5_11), (2, .int p2), (3, .int p3), (4, .int p4), (7, .long (0 : Int64))]) hx hb dX7_problem_61 hl (by decide) rfl (fun ls hl => ?_)
      refine lv_goto (tgt := 305) hx hb dX7_problem_63 (by decide) ?_
      exact KJ305 x5_11 (0 : Int64) h ls (lv_sub hl [3, 0, 4] rfl)
    clear ekJ56
    refine lv_if_eq (tgt := 56) hx hb dX7_problem_48 (by decide) (fun c12 => ?_) (fun c12 => ?_)
    · replace h := md_t c12 h
      exact KJ56 () h ls (lv_sub hl [4, 5, 6, 0] rfl)
    replace h := md_f c12 h
    refine lv_iload_n hx hb dX7_problem_51 rfl (lv_at hl 3 rfl) ?_
    refine lv_iconst (v := 5) hx hb dX7_problem_52 (by decide) ?_
    refine lv_icmp_ne (tgt := 66) hx hb dX7_problem_53 (by decide) (fun c13 => ?_) (fun c13 => ?_)
    · replace h := md_f c13 h
      refine lv_iload_n hx hb dX7_problem_66 rfl (lv_at hl 3 rfl) ?_
      refine lv_iconst (v := 1) hx hb dX7_problem_67 (by decide) ?_
      refine lv_icmp_ne (tgt := 135) hx hb dX7_problem_68 (by decide) (fun c14 => ?_) (fun c14 => ?_)
      · replace h := md_f c14 h
        refine lv_iload_n hx hb dX7_problem_135 rfl (lv_at hl 3 rfl) ?_
        refine lv_iconst (v := 2) hx hb dX7_problem_136 (by decide) ?_
        refine lv_icmp_ne (tgt := 169) hx hb dX7_problem_137 (by decide) (fun c15 => ?_) (fun c15 => ?_)
        · replace h := md_f c15 h
          refine lv_iload_n hx hb dX7_problem_169 rfl (lv_at hl 3 rfl) ?_
          refine lv_iconst (v := 3) hx hb dX7_problem_170 (by decide) ?_
          obtain ⟨kJ201, ekJ201, h⟩ := md_jo h
          have KJ201 : ∀ (z0_201 : Int64), kJ201 z0_201 = some res → ∀ (ls : Array Slot), lv_has ls 15 [(1, .int p1), (2, .int p2), (4, .int p4), (5, .long (0 : Int64)), (7, .long (0 : Int64))] → W p l e rmX7_problem s m args below meth c s.heap [] 0 0 Q (F0 m 201 ls [.long z0_201]) := by
            intro z0_201 h ls hl
            rw [ekJ201] at h
            refine lv_lstore (lv' := [(9, .long z0_201), (1, .int p1), (2, .int p2), (4, .int p4), (5, .long (0 : Int64)), (7, .long (0 : Int64))]) hx hb dX7_problem_201 hl (by decide) rfl (fun ls hl => ?_)
            refine lv_lload hx hb dX7_problem_203 (lv_at hl 0 rfl) ?_
            refine lv_lconst (v := 0) hx hb dX7_problem_205 (by decide) ?_
            refine W.lcmp hx hb dX7_problem_206 ?_
            obtain ⟨kJ219, ekJ219, h⟩ := md_jo h
            have KJ219 : ∀ (z0_219 : Int64), kJ219 z0_219 = some res → ∀ (ls : Array Slot), lv_has ls 15 [(1, .int p1), (2, .int p2), (4, .int p4), (5, .long (0 : Int64)), (7, .long (0 : Int64)), (9, .long z0_201)] → W p l e rmX7_problem s m args below meth c s.heap [] 0 0 Q (F0 m 219 ls [.long z0_219]) := by
              intro z0_219 h ls hl
              rw [ekJ219] at h
              refine lv_lstore (lv' := [(11, .long z0_219), (1, .int p1), (2, .int p2), (4, .int p4), (5, .long (0 : Int64)), (7, .long (0 : Int64)), (9, .long z0_201)]) hx hb dX7_problem_219 hl (by decide) rfl (fun ls hl => ?_)
              refine lv_iload_n hx hb dX7_problem_221 rfl (lv_at hl 1 rfl) ?_
              refine lv_iconst (v := 3) hx hb dX7_problem_222 (by decide) ?_
              obtain ⟨kJ239, ekJ239, h⟩ := md_jo h
              have KJ239 : ∀ (z0_239 : Int64), kJ239 z0_239 = some res → ∀ (ls : Array Slot), lv_has ls 15 [(1, .int p1), (2, .int p2), (4, .int p4), (5, .long (0 : Int64)), (7, .long (0 : Int64)), (9, .long z0_201), (11, .long z0_219)] → W p l e rmX7_problem s m args below meth c s.heap [] 0 0 Q (F0 m 239 ls [.long z0_239]) := by
                intro z0_239 h ls hl
                rw [ekJ239] at h
                refine lv_lstore (lv' := [(13, .long z0_239), (1, .int p1), (2, .int p2), (4, .int p4), (5, .long (0 : Int64)), (7, .long (0 : Int64)), (9, .long z0_201), (11, .long z0_219)]) hx hb dX7_problem_239 hl (by decide) rfl (fun ls hl => ?_)
                refine lv_lload hx hb dX7_problem_241 (lv_at hl 6 rfl) ?_
                refine lv_lconst (v := 0) hx hb dX7_problem_243 (by decide) ?_
                refine W.lcmp hx hb dX7_problem_244 ?_
                refine lv_if_lt (tgt := 305) hx hb dX7_problem_245 (by decide) (fun c16 => ?_) (fun c16 => ?_)
                · replace c16 := (lg_cmp_lt _ _).mp c16
                  replace h := md_t c16 h
                  exact KJ305 (0 : Int64) (0 : Int64) h ls (lv_sub hl [3, 4, 5] rfl)
                replace c16 := fun q9 => c16 ((lg_cmp_lt _ _).mpr q9)
                replace h := md_f c16 h
                refine lv_lload hx hb dX7_problem_248 (lv_at hl 7 rfl) ?_
                refine lv_lload hx hb dX7_problem_250 (lv_at hl 7 rfl) ?_
                refine lv_lmul hx hb dX7_problem_252 ?_
                refine lv_lload hx hb dX7_problem_253 (lv_at hl 6 rfl) ?_
                refine W.lcmp hx hb dX7_problem_255 ?_
                refine lv_if_ne (tgt := 305) hx hb dX7_problem_256 (by decide) (fun c17 => ?_) (fun c17 => ?_)
                · replace c17 := fun q9 => c17 ((lg_cmp_eq _ _).mpr q9)
                  replace h := md_f c17 h
                  exact KJ305 (0 : Int64) (0 : Int64) h ls (lv_sub hl [3, 4, 5] rfl)
                replace c17 := (lg_cmp_eq _ _).mp c17
                replace h := md_t c17 h
                refine lv_lload hx hb dX7_problem_259 (lv_at hl 0 rfl) ?_
                refine lv_lconst (v := 0) hx hb dX7_problem_261 (by decide) ?_
                refine W.lcmp hx hb dX7_problem_262 ?_
                refine lv_if_le (tgt := 305) hx hb dX7_problem_263 (by decide) (fun c18 => ?_) (fun c18 => ?_)
                · replace c18 := (lg_cmp_le _ _).mp c18
                  replace h := md_t c18 h
                  exact KJ305 (0 : Int64) (0 : Int64) h ls (lv_sub hl [3, 4, 5] rfl)
                replace c18 := fun q9 => c18 ((lg_cmp_le _ _).mpr q9)
                replace h := md_f c18 h
                refine lv_lload hx hb dX7_problem_266 (lv_at hl 0 rfl) ?_
                refine lv_ldc2 hx hb hown (hts _ wm_X7_problem_3) dX7_problem_268 ?_
                refine lv_lrem hx hb dX7_problem_271 (by decide) ?_
                refine lv_lconst (v := 0) hx hb dX7_problem_272 (by decide) ?_
                refine W.lcmp hx hb dX7_problem_273 ?_
                refine lv_if_ne (tgt := 305) hx hb dX7_problem_274 (by decide) (fun c19 => ?_) (fun c19 => ?_)
                · replace c19 := fun q9 => c19 ((lg_cmp_eq _ _).mpr q9)
                  replace h := md_f c19 h
                  exact KJ305 (0 : Int64) (0 : Int64) h ls (lv_sub hl [3, 4, 5] rfl)
                replace c19 := (lg_cmp_eq _ _).mp c19
                replace h := md_t c19 h
                refine lv_lload hx hb dX7_problem_277 (lv_at hl 0 rfl) ?_
                refine lv_ldc2 hx hb hown (hts _ wm_X7_problem_3) dX7_problem_279 ?_
                refine lv_ldiv hx hb dX7_problem_282 (by decide) ?_
                refine lv_topl (fun x7_20 ex7_20 => ?_)
                replace h := md_le ex7_20 h
                refine lv_lstore (lv' := [(7, .long x7_20), (13, .long z0_239), (1, .int p1), (2, .int p2), (4, .int p4), (5, .long (0 : Int64)), (9, .long z0_201), (11, .long z0_219)]) hx hb dX7_problem_283 hl (by decide) rfl (fun ls hl => ?_)
                refine lv_iload_n hx hb dX7_problem_285 rfl (lv_at hl 2 rfl) ?_
                refine lv_iconst (v := 3) hx hb dX7_problem_286 (by decide) ?_
                obtain ⟨kJ303, ekJ303, h⟩ := md_jo h
                have KJ303 : ∀ (z0_303 : Int64), kJ303 z0_303 = some res → ∀ (ls : Array Slot), lv_has ls 15 [(4, .int p4), (7, .long x7_20)] → W p l e rmX7_problem s m args below meth c s.heap [] 0 0 Q (F0 m 303 ls [.long z0_303]) := by
                  intro z0_303 h ls hl
                  rw [ekJ303] at h
                  refine lv_lstore (lv' := [(5, .long z0_303), (4, .int p4), (7, .long x7_20)]) hx hb dX7_problem_303 hl (by decide) rfl (fun ls hl => ?_)
                  exact KJ305 z0_303 x7_20 h ls (lv_sub hl [1, 0, 2] rfl)
                clear ekJ303
                refine lv_icmp_ne (tgt := 298) hx hb dX7_problem_287 (by decide) (fun c21 => ?_) (fun c21 => ?_)
                · replace h := md_f c21 h
                  refine lv_iload_n hx hb dX7_problem_298 rfl (lv_at hl 3 rfl) ?_
                  refine lv_i2l hx hb dX7_problem_299 rfl ?_
                  refine lv_lload hx hb dX7_problem_300 (lv_at hl 0 rfl) ?_
                  refine lv_ladd hx hb dX7_problem_302 ?_
                  exact KJ303 ((Int32.toInt64 p2) + x7_20) h ls (lv_sub hl [4, 0] rfl)
                replace h := md_t c21 h
                refine lv_iload_n hx hb dX7_problem_290 rfl (lv_at hl 3 rfl) ?_
                refine lv_i2l hx hb dX7_problem_291 rfl ?_
                refine lv_lload hx hb dX7_problem_292 (lv_at hl 0 rfl) ?_
                refine lv_lsub hx hb dX7_problem_294 ?_
                refine lv_goto (tgt := 303) hx hb dX7_problem_295 (by decide) ?_
                exact KJ303 ((Int32.toInt64 p2) - x7_20) h ls (lv_sub hl [4, 0] rfl)
              clear ekJ239
              refine lv_icmp_ne (tgt := 234) hx hb dX7_problem_223 (by decide) (fun c22 => ?_) (fun c22 => ?_)
              · replace h := md_f c22 h
                refine lv_lload hx hb dX7_problem_234 (lv_at hl 0 rfl) ?_
                refine lv_iload_n hx hb dX7_problem_236 rfl (lv_at hl 2 rfl) ?_
                refine lv_i2l hx hb dX7_problem_237 rfl ?_
                refine lv_lsub hx hb dX7_problem_238 ?_
                exact KJ239 (z0_219 - (Int32.toInt64 p2)) h ls (lv_sub hl [1, 2, 3, 4, 5, 6, 0] rfl)
              replace h := md_t c22 h
              refine lv_iload_n hx hb dX7_problem_226 rfl (lv_at hl 2 rfl) ?_
              refine lv_i2l hx hb dX7_problem_227 rfl ?_
              refine lv_lload hx hb dX7_problem_228 (lv_at hl 0 rfl) ?_
              refine lv_lsub hx hb dX7_problem_230 ?_
              refine lv_goto (tgt := 239) hx hb dX7_problem_231 (by decide) ?_
              exact KJ239 ((Int32.toInt64 p2) - z0_219) h ls (lv_sub hl [1, 2, 3, 4, 5, 6, 0] rfl)
            clear ekJ219
            refine lv_if_ge (tgt := 214) hx hb dX7_problem_207 (by decide) (fun c23 => ?_) (fun c23 => ?_)
            · replace c23 := (lg_cmp_ge _ _).mp c23
              replace h := md_t c23 h
              refine lv_lload hx hb dX7_problem_214 (lv_at hl 0 rfl) ?_
              obtain ⟨u24, hu24, h⟩ := md_b h
              refine kS C (ctX7_whole l  hu24) gX7_problem_X7_whole rfl kdX7_whole ⟨rfl, rfl⟩ ⟨by decide, by decide⟩ kT_blind (fun _ _ _ => trivial) rfl hl [] rfl (Nat.le_of_ble_eq_true rfl) dX7_problem_216 ⟨by decide, by decide⟩ ?_
              exact KJ219 u24 h ls (lv_sub hl [1, 2, 3, 4, 5, 0] rfl)
            replace c23 := fun q9 => c23 ((lg_cmp_ge _ _).mpr q9)
            replace h := md_f c23 h
            refine lv_lconst (v := 0) hx hb dX7_problem_210 (by decide) ?_
            refine lv_goto (tgt := 219) hx hb dX7_problem_211 (by decide) ?_
            exact KJ219 (0 : Int64) h ls (lv_sub hl [1, 2, 3, 4, 5, 0] rfl)
          clear ekJ201
          refine lv_icmp_ne (tgt := 189) hx hb dX7_problem_171 (by decide) (fun c25 => ?_) (fun c25 => ?_)
          · replace h := md_f c25 h
            refine lv_iload_n hx hb dX7_problem_189 rfl (lv_at hl 4 rfl) ?_
            refine lv_i2l hx hb dX7_problem_190 rfl ?_
            refine lv_iload_n hx hb dX7_problem_191 rfl (lv_at hl 4 rfl) ?_
            refine lv_i2l hx hb dX7_problem_192 rfl ?_
            refine lv_lmul hx hb dX7_problem_193 ?_
            refine lv_ldc2 hx hb hown (hts _ wm_X7_problem_4) dX7_problem_194 ?_
            refine lv_iload_n hx hb dX7_problem_197 rfl (lv_at hl 5 rfl) ?_
            refine lv_i2l hx hb dX7_problem_198 rfl ?_
            refine lv_lmul hx hb dX7_problem_199 ?_
            refine lv_ladd hx hb dX7_problem_200 ?_
            exact KJ201 (((Int32.toInt64 p2) * (Int32.toInt64 p2)) + ((4 : Int64) * (Int32.toInt64 p3))) h ls (lv_sub hl [3, 4, 6, 1, 0] rfl)
          replace h := md_t c25 h
          refine lv_iload_n hx hb dX7_problem_174 rfl (lv_at hl 4 rfl) ?_
          refine lv_i2l hx hb dX7_problem_175 rfl ?_
          refine lv_iload_n hx hb dX7_problem_176 rfl (lv_at hl 4 rfl) ?_
          refine lv_i2l hx hb dX7_problem_177 rfl ?_
          refine lv_lmul hx hb dX7_problem_178 ?_
          refine lv_ldc2 hx hb hown (hts _ wm_X7_problem_4) dX7_problem_179 ?_
          refine lv_iload_n hx hb dX7_problem_182 rfl (lv_at hl 5 rfl) ?_
          refine lv_i2l hx hb dX7_problem_183 rfl ?_
          refine lv_lmul hx hb dX7_problem_184 ?_
          refine lv_lsub hx hb dX7_problem_185 ?_
          refine lv_goto (tgt := 201) hx hb dX7_problem_186 (by decide) ?_
          exact KJ201 (((Int32.toInt64 p2) * (Int32.toInt64 p2)) - ((4 : Int64) * (Int32.toInt64 p3))) h ls (lv_sub hl [3, 4, 6, 1, 0] rfl)
        replace h := md_t c15 h
        refine lv_iload_n hx hb dX7_problem_140 rfl (lv_at hl 4 rfl) ?_
        refine lv_i2l hx hb dX7_problem_141 rfl ?_
        obtain ⟨u26, hu26, h⟩ := md_b h
        refine kS C (ctX7_whole l  hu26) gX7_problem_X7_whole rfl kdX7_whole ⟨rfl, rfl⟩ ⟨by decide, by decide⟩ kT_blind (fun _ _ _ => trivial) rfl hl [] rfl (Nat.le_of_ble_eq_true rfl) dX7_problem_142 ⟨by decide, by decide⟩ ?_
        refine lv_lstore (lv' := [(9, .long u26), (7, .long (0 : Int64)), (5, .long (0 : Int64)), (0, .ref mo), (1, .int p1), (2, .int p2), (3, .int p3), (4, .int p4)]) hx hb dX7_problem_145 hl (by decide) rfl (fun ls hl => ?_)
        refine lv_lload hx hb dX7_problem_147 (lv_at hl 0 rfl) ?_
        refine lv_lload hx hb dX7_problem_149 (lv_at hl 0 rfl) ?_
        refine lv_lmul hx hb dX7_problem_151 ?_
        refine lv_iload_n hx hb dX7_problem_152 rfl (lv_at hl 5 rfl) ?_
        refine lv_i2l hx hb dX7_problem_153 rfl ?_
        refine W.lcmp hx hb dX7_problem_154 ?_
        obtain ⟨kJ164, ekJ164, h⟩ := md_jo h
        have KJ164 : ∀ (z0_164 : Int64), kJ164 z0_164 = some res → ∀ (ls : Array Slot), lv_has ls 15 [(4, .int p4), (7, .long (0 : Int64))] → W p l e rmX7_problem s m args below meth c s.heap [] 0 0 Q (F0 m 164 ls [.long z0_164]) := by
          intro z0_164 h ls hl
          rw [ekJ164] at h
          refine lv_lstore (lv' := [(5, .long z0_164), (4, .int p4), (7, .long (0 : Int64))]) hx hb dX7_problem_164 hl (by decide) rfl (fun ls hl => ?_)
          refine lv_goto (tgt := 305) hx hb dX7_problem_166 (by decide) ?_
          exact KJ305 z0_164 (0 : Int64) h ls (lv_sub hl [1, 0, 2] rfl)
        clear ekJ164
        refine lv_if_ne (tgt := 163) hx hb dX7_problem_155 (by decide) (fun c27 => ?_) (fun c27 => ?_)
        · replace c27 := fun q9 => c27 ((lg_cmp_eq _ _).mpr q9)
          replace h := md_f c27 h
          refine lv_lconst (v := 0) hx hb dX7_problem_163 (by decide) ?_
          exact KJ164 (0 : Int64) h ls (lv_sub hl [7, 1] rfl)
        replace c27 := (lg_cmp_eq _ _).mp c27
        replace h := md_t c27 h
        refine lv_lload hx hb dX7_problem_158 (lv_at hl 0 rfl) ?_
        refine lv_goto (tgt := 164) hx hb dX7_problem_160 (by decide) ?_
        exact KJ164 u26 h ls (lv_sub hl [7, 1] rfl)
      replace h := md_t c14 h
      refine lv_iload_n hx hb dX7_problem_71 rfl (lv_at hl 5 rfl) ?_
      refine lv_i2l hx hb dX7_problem_72 rfl ?_
      obtain ⟨u28, hu28, h⟩ := md_b h
      refine kS C (ctX7_isEven l  hu28) gX7_problem_X7_isEven rfl kdX7_isEven ⟨rfl, rfl⟩ ⟨by decide, by decide⟩ kT_blind (fun _ _ _ => trivial) rfl hl [] rfl (Nat.le_of_ble_eq_true rfl) dX7_problem_73 ⟨by decide, by decide⟩ ?_
      obtain ⟨kJ90, ekJ90, h⟩ := md_jo h
      have KJ90 : ∀ (z0_90 : Int64), kJ90 z0_90 = some res → ∀ (ls : Array Slot), lv_has ls 15 [(2, .int p2), (4, .int p4), (7, .long (0 : Int64))] → W p l e rmX7_problem s m args below meth c s.heap [] 0 0 Q (F0 m 90 ls [.long z0_90]) := by
        intro z0_90 h ls hl
        rw [ekJ90] at h
        refine lv_lstore (lv' := [(9, .long z0_90), (2, .int p2), (4, .int p4), (7, .long (0 : Int64))]) hx hb dX7_problem_90 hl (by decide) rfl (fun ls hl => ?_)
        refine lv_iload_n hx hb dX7_problem_92 rfl (lv_at hl 1 rfl) ?_
        refine lv_i2l hx hb dX7_problem_93 rfl ?_
        obtain ⟨u29, hu29, h⟩ := md_b h
        refine kS C (ctX7_sixtyOf l  hu29) gX7_problem_X7_sixtyOf rfl kdX7_sixtyOf ⟨rfl, rfl⟩ ⟨by decide, by decide⟩ kT_blind (fun _ _ _ => trivial) rfl hl [] rfl (Nat.le_of_ble_eq_true rfl) dX7_problem_94 ⟨by decide, by decide⟩ ?_
        refine lv_lstore (lv' := [(11, .long u29), (9, .long z0_90), (2, .int p2), (4, .int p4), (7, .long (0 : Int64))]) hx hb dX7_problem_97 hl (by decide) rfl (fun ls hl => ?_)
        refine lv_lload hx hb dX7_problem_99 (lv_at hl 1 rfl) ?_
        refine lv_lconst (v := 0) hx hb dX7_problem_101 (by decide) ?_
        refine W.lcmp hx hb dX7_problem_102 ?_
        obtain ⟨kJ130, ekJ130, h⟩ := md_jo h
        have KJ130 : ∀ (z0_130 : Int64), kJ130 z0_130 = some res → ∀ (ls : Array Slot), lv_has ls 15 [(4, .int p4), (7, .long (0 : Int64))] → W p l e rmX7_problem s m args below meth c s.heap [] 0 0 Q (F0 m 130 ls [.long z0_130]) := by
          intro z0_130 h ls hl
          rw [ekJ130] at h
          refine lv_lstore (lv' := [(5, .long z0_130), (4, .int p4), (7, .long (0 : Int64))]) hx hb dX7_problem_130 hl (by decide) rfl (fun ls hl => ?_)
          refine lv_goto (tgt := 305) hx hb dX7_problem_132 (by decide) ?_
          exact KJ305 z0_130 (0 : Int64) h ls (lv_sub hl [1, 0, 2] rfl)
        clear ekJ130
        obtain ⟨kJ118, ekJ118, h⟩ := md_jo h
        have KJ118 : ∀ (u_118 : Unit), kJ118 u_118 = some res → ∀ (ls : Array Slot), lv_has ls 15 [(4, .int p4), (7, .long (0 : Int64))] → W p l e rmX7_problem s m args below meth c s.heap [] 0 0 Q (F0 m 118 ls []) := by
          intro u_118 h ls hl
          rw [ekJ118] at h
          refine lv_lconst (v := 0) hx hb dX7_problem_118 (by decide) ?_
          refine lv_goto (tgt := 130) hx hb dX7_problem_119 (by decide) ?_
          exact KJ130 (0 : Int64) h ls (lv_sub hl [0, 1] rfl)
        clear ekJ118
        refine lv_if_lt (tgt := 118) hx hb dX7_problem_103 (by decide) (fun c30 => ?_) (fun c30 => ?_)
        · replace c30 := (lg_cmp_lt _ _).mp c30
          replace h := md_t c30 h
          exact KJ118 () h ls (lv_sub hl [3, 4] rfl)
        replace c30 := fun q9 => c30 ((lg_cmp_lt _ _).mpr q9)
        replace h := md_f c30 h
        refine lv_lload hx hb dX7_problem_106 (lv_at hl 1 rfl) ?_
        refine lv_ldc2 hx hb hown (hts _ wm_X7_problem_5) dX7_problem_108 ?_
        refine lv_lload hx hb dX7_problem_111 (lv_at hl 0 rfl) ?_
        obtain ⟨hz31, h⟩ := md_g h
        refine lv_ldiv hx hb dX7_problem_113 hz31 ?_
        refine W.lcmp hx hb dX7_problem_114 ?_
        refine lv_if_le (tgt := 122) hx hb dX7_problem_115 (by decide) (fun c32 => ?_) (fun c32 => ?_)
        · replace c32 := (lg_cmp_le _ _).mp c32
          replace h := md_t c32 h
          refine lv_lload hx hb dX7_problem_122 (lv_at hl 0 rfl) ?_
          refine lv_lload hx hb dX7_problem_124 (lv_at hl 1 rfl) ?_
          refine lv_lmul hx hb dX7_problem_126 ?_
          obtain ⟨u33, hu33, h⟩ := md_b h
          refine kS C (ctX7_sixtyOf l  hu33) gX7_problem_X7_sixtyOf rfl kdX7_sixtyOf ⟨rfl, rfl⟩ ⟨by decide, by decide⟩ kT_blind (fun _ _ _ => trivial) rfl hl [] rfl (Nat.le_of_ble_eq_true rfl) dX7_problem_127 ⟨by decide, by decide⟩ ?_
          exact KJ130 u33 h ls (lv_sub hl [3, 4] rfl)
        replace c32 := fun q9 => c32 ((lg_cmp_le _ _).mpr q9)
        replace h := md_f c32 h
        exact KJ118 () h ls (lv_sub hl [3, 4] rfl)
      clear ekJ90
      refine lv_if_eq (tgt := 87) hx hb dX7_problem_76 (by decide) (fun c34 => ?_) (fun c34 => ?_)
      · replace h := md_t c34 h
        refine lv_ldc2 hx hb hown (hts _ wm_X7_problem_6) dX7_problem_87 ?_
        exact KJ90 (-1 : Int64) h ls (lv_sub hl [4, 6, 0] rfl)
      replace h := md_f c34 h
      refine lv_iload_n hx hb dX7_problem_79 rfl (lv_at hl 5 rfl) ?_
      refine lv_i2l hx hb dX7_problem_80 rfl ?_
      obtain ⟨u35, hu35, h⟩ := md_b h
      refine kS C (ctX7_turnedOf l  hu35) gX7_problem_X7_turnedOf rfl kdX7_turnedOf ⟨rfl, rfl⟩ ⟨by decide, by decide⟩ kT_blind (fun _ _ _ => trivial) rfl hl [] rfl (Nat.le_of_ble_eq_true rfl) dX7_problem_81 ⟨by decide, by decide⟩ ?_
      refine lv_goto (tgt := 90) hx hb dX7_problem_84 (by decide) ?_
      exact KJ90 u35 h ls (lv_sub hl [4, 6, 0] rfl)
    replace h := md_t c13 h
    exact KJ56 () h ls (lv_sub hl [4, 5, 6, 0] rfl)
  replace h := md_t c8 h
  refine lv_ldc2 hx hb hown (hts _ wm_X7_problem_1) dX7_problem_37 ?_
  exact hQ (-1000000000000000002 : Int64) 40 ls h dX7_problem_40
set_option maxHeartbeats 4000000 in
theorem ctX7_problem (l : Launch) {mo : Nat} {p1 : Int32} {p2 : Int32} {p3 : Int32} {p4 : Int32} {res : Int64} (hm : mX7_problem p1 p2 p3 p4 = some res) : Met l yX7_problem wsX7_problem rmX7_problem (va_Pc [.ref mo, .int p1, .int p2, .int p3, .int p4] (fun _ => True)) (kR (.long res)) 0 0 (fun _ => False) :=
  km (by decide) rfl (Nat.le_of_ble_eq_true rfl) (fun p e s m below meth c ls C hB hl => bX7_problem C p1 p2 p3 p4 res (fun v pc ls h hd => kr_l C h hd) hm ls hl)
