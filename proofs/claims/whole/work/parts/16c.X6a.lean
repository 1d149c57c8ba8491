theorem wm_X6_sixty_0 : Cond.constantLong RX6 48 (-1000000000000000002) ∈ wsX6_sixty := by decide +kernel
theorem kdvX6_sixty : yX6_sixty.cls = RX6 ∧ yX6_sixty.cls ≠ "java/lang/invoke/MethodHandle" ∧ yX6_sixty.cls ≠ "java/lang/invoke/VarHandle" ∧ (parseMethodDescriptor yX6_sixty.desc).map (fun d => d.parameters.length) = some 1 := by decide +kernel
abbrev rmX6_sixty : Room := { frames := 1, cells := 0, slots := 0, locals := 24 }
def mX6_sixty (p1 : Int64) : Option Int64 := (Option.bind (mX1_isNumber p1) (fun u1 => (if u1 = 0 then (some (-1000000000000000002 : Int64)) else (Option.bind (mX1_strip p1) (fun u3 => (some u3))))))
set_option maxHeartbeats 4000000 in
set_option maxRecDepth 100000 in
theorem bX6_sixty {p : Program} {l : Launch} {e : Env} {s : State} {m : MethodId} {args : Array Value} {below : List Frame} {meth : Method} {c : Code} {Q : State → Prop} (C : kc p s m args meth c cX6_sixty 3 RX6 yX6_sixty.name wsX6_sixty (some .long)) {xo : Nat} (p1 : Int64) (res : Int64) (hQ : ∀ (v : Int64) (pc : Nat) (ls : Array Slot), some v = some res → decode cX6_sixty pc = .ok (.lreturn, 1) → W p l e rmX6_sixty s m args below meth c s.heap [] 0 0 Q (F0 m pc ls [.long v])) : mX6_sixty p1 = some res → ∀ (ls : Array Slot), lv_has ls 3 [(0, .ref xo), (1, .long p1)] → W p l e rmX6_sixty s m args below meth c s.heap [] 0 0 Q (F0 m 0 ls []) := by
  intro h ls hl
  have C0 := C
  obtain ⟨hx, hb, hml, hown, hts, hr, hlk, hnm⟩ := C0
  rw [mX6_sixty] at h
  refine lv_lload_n hx hb dX6_sixty_0 rfl (lv_at hl 1 rfl) ?_
  obtain ⟨u1, hu1, h⟩ := md_b h
  refine kS C (ctX1_isNumber l  hu1) gX6_sixty_X1_isNumber rfl kdX1_isNumber ⟨rfl, rfl⟩ ⟨by decide, by decide⟩ kT_blind (fun _ _ _ => trivial) rfl hl [] rfl (Nat.le_of_ble_eq_true rfl) dX6_sixty_1 ⟨by decide, by decide⟩ ?_
  refine lv_if_eq (tgt := 14) hx hb dX6_sixty_4 (by decide) (fun c2 => ?_) (fun c2 => ?_)
  · replace h := md_t c2 h
    refine lv_ldc2 hx hb hown (hts _ wm_X6_sixty_0) dX6_sixty_14 ?_
    exact hQ (-1000000000000000002 : Int64) 17 ls h dX6_sixty_17
  replace h := md_f c2 h
  refine lv_lload_n hx hb dX6_sixty_7 rfl (lv_at hl 1 rfl) ?_
  obtain ⟨u3, hu3, h⟩ := md_b h
  refine kS C (ctX1_strip l  hu3) gX6_sixty_X1_strip rfl kdX1_strip ⟨rfl, rfl⟩ ⟨by decide, by decide⟩ kT_blind (fun _ _ _ => trivial) rfl hl [] rfl (Nat.le_of_ble_eq_true rfl) dX6_sixty_8 ⟨by decide, by decide⟩ ?_
  refine lv_goto (tgt := 17) hx hb dX6_sixty_11 (by decide) ?_
  exact hQ u3 17 ls h dX6_sixty_17
set_option maxHeartbeats 4000000 in
theorem ctX6_sixty (l : Launch) {xo : Nat} {p1 : Int64} {res : Int64} (hm : mX6_sixty p1 = some res) : Met l yX6_sixty wsX6_sixty rmX6_sixty (va_Pc [.ref xo, .long p1] (fun _ => True)) (kR (.long res)) 0 0 (fun _ => False) :=
  km (by decide) rfl (Nat.le_of_ble_eq_true rfl) (fun p e s m below meth c ls C hB hl => bX6_sixty C p1 res (fun v pc ls h hd => kr_l C h hd) hm ls hl)
theorem kdvX6_digit : yX6_digit.cls = RX6 ∧ yX6_digit.cls ≠ "java/lang/invoke/MethodHandle" ∧ yX6_digit.cls ≠ "java/lang/invoke/VarHandle" ∧ (parseMethodDescriptor yX6_digit.desc).map (fun d => d.parameters.length) = some 2 := by decide +kernel
abbrev rmX6_digit : Room := { frames := 1, cells := 0, slots := 0, locals := 25 }
def mX6_digit (p1 : Int64) (p2 : Int32) : Option Int32 := (Option.bind (mX1_isNumber p1) (fun u1 => (if u1 = 0 then (some (-2 : Int32)) else (Option.bind (mX1_strip p1) (fun u3 => (Option.bind (mX1_length u3) (fun u4 => (if p2 = (-1 : Int32) then (some u4) else (if p2 < 0 then (some (-6 : Int32)) else (if u4 ≤ p2 then (some (-6 : Int32)) else (Option.bind (mX1_digitAhead u3 ((u4 - (1 : Int32)) - p2)) (fun u8 => (some u8)))))))))))))
set_option maxHeartbeats 4000000 in
set_option maxRecDepth 100000 in
theorem bX6_digit {p : Program} {l : Launch} {e : Env} {s : State} {m : MethodId} {args : Array Value} {below : List Frame} {meth : Method} {c : Code} {Q : State → Prop} (C : kc p s m args meth c cX6_digit 7 RX6 yX6_digit.name wsX6_digit (some .int)) {xo : Nat} (p1 : Int64) (p2 : Int32) (res : Int32) (hQ : ∀ (v : Int32) (pc : Nat) (ls : Array Slot), some v = some res → decode cX6_digit pc = .ok (.ireturn, 1) → W p l e rmX6_digit s m args below meth c s.heap [] 0 0 Q (F0 m pc ls [.int v])) : mX6_digit p1 p2 = some res → ∀ (ls : Array Slot), lv_has ls 7 [(0, .ref xo), (1, .long p1), (3, .int p2)] → W p l e rmX6_digit s m args below meth c s.heap [] 0 0 Q (F0 m 0 ls []) := by
  intro h ls hl
  have C0 := C
  obtain ⟨hx, hb, hml, hown, hts, hr, hlk, hnm⟩ := C0
  rw [mX6_digit] at h
  refine lv_lload_n hx hb dX6_digit_0 rfl (lv_at hl 1 rfl) ?_
  obtain ⟨u1, hu1, h⟩ := md_b h
  refine kS C (ctX1_isNumber l  hu1) gX6_digit_X1_isNumber rfl kdX1_isNumber ⟨rfl, rfl⟩ ⟨by decide, by decide⟩ kT_blind (fun _ _ _ => trivial) rfl hl [] rfl (Nat.le_of_ble_eq_true rfl) dX6_digit_1 ⟨by decide, by decide⟩ ?_
  refine lv_if_ne (tgt := 10) hx hb dX6_digit_4 (by decide) (fun c2 => ?_) (fun c2 => ?_)
  · replace h := md_f c2 h
    refine lv_lload_n hx hb dX6_digit_10 rfl (lv_at hl 1 rfl) ?_
    obtain ⟨u3, hu3, h⟩ := md_b h
    refine kS C (ctX1_strip l  hu3) gX6_digit_X1_strip rfl kdX1_strip ⟨rfl, rfl⟩ ⟨by decide, by decide⟩ kT_blind (fun _ _ _ => trivial) rfl hl [] rfl (Nat.le_of_ble_eq_true rfl) dX6_digit_11 ⟨by decide, by decide⟩ ?_
    refine lv_lstore (lv' := [(4, .long u3), (0, .ref xo), (1, .long p1), (3, .int p2)]) hx hb dX6_digit_14 hl (by decide) rfl (fun ls hl => ?_)
    refine lv_lload hx hb dX6_digit_16 (lv_at hl 0 rfl) ?_
    obtain ⟨u4, hu4, h⟩ := md_b h
    refine kS C (ctX1_length l  hu4) gX6_digit_X1_length rfl kdX1_length ⟨rfl, rfl⟩ ⟨by decide, by decide⟩ kT_blind (fun _ _ _ => trivial) rfl hl [] rfl (Nat.le_of_ble_eq_true rfl) dX6_digit_18 ⟨by decide, by decide⟩ ?_
    refine lv_istore (lv' := [(6, .int u4), (4, .long u3), (0, .ref xo), (1, .long p1), (3, .int p2)]) hx hb dX6_digit_21 hl (by decide) rfl (fun ls hl => ?_)
    refine lv_iload_n hx hb dX6_digit_23 rfl (lv_at hl 4 rfl) ?_
    refine lv_iconst (v := -1) hx hb dX6_digit_24 (by decide) ?_
    refine lv_icmp_ne (tgt := 31) hx hb dX6_digit_25 (by decide) (fun c5 => ?_) (fun c5 => ?_)
    · replace h := md_f c5 h
      refine lv_iload_n hx hb dX6_digit_31 rfl (lv_at hl 4 rfl) ?_
      refine lv_if_lt (tgt := 55) hx hb dX6_digit_32 (by decide) (fun c6 => ?_) (fun c6 => ?_)
      · replace h := md_t c6 h
        refine lv_bipush (v := -6) hx hb dX6_digit_55 (by decide) ?_
        exact hQ (-6 : Int32) 57 ls h dX6_digit_57
      replace h := md_f c6 h
      refine lv_iload_n hx hb dX6_digit_35 rfl (lv_at hl 4 rfl) ?_
      refine lv_iload hx hb dX6_digit_36 (lv_at hl 0 rfl) ?_
      refine lv_icmp_ge (tgt := 55) hx hb dX6_digit_38 (by decide) (fun c7 => ?_) (fun c7 => ?_)
      · replace h := md_t c7 h
        refine lv_bipush (v := -6) hx hb dX6_digit_55 (by decide) ?_
        exact hQ (-6 : Int32) 57 ls h dX6_digit_57
      replace h := md_f c7 h
      refine lv_lload hx hb dX6_digit_41 (lv_at hl 1 rfl) ?_
      refine lv_iload hx hb dX6_digit_43 (lv_at hl 0 rfl) ?_
      refine lv_iconst (v := 1) hx hb dX6_digit_45 (by decide) ?_
      refine lv_isub hx hb dX6_digit_46 ?_
      refine lv_iload_n hx hb dX6_digit_47 rfl (lv_at hl 4 rfl) ?_
      refine lv_isub hx hb dX6_digit_48 ?_
      obtain ⟨u8, hu8, h⟩ := md_b h
      refine kS C (ctX1_digitAhead l  hu8) gX6_digit_X1_digitAhead rfl kdX1_digitAhead ⟨rfl, rfl⟩ ⟨by decide, by decide⟩ kT_blind (fun _ _ _ => trivial) rfl hl [] rfl (Nat.le_of_ble_eq_true rfl) dX6_digit_49 ⟨by decide, by decide⟩ ?_
      refine lv_goto (tgt := 57) hx hb dX6_digit_52 (by decide) ?_
      exact hQ u8 57 ls h dX6_digit_57
    replace h := md_t c5 h
    refine lv_iload hx hb dX6_digit_28 (lv_at hl 0 rfl) ?_
    exact hQ u4 30 ls h dX6_digit_30
  replace h := md_t c2 h
  refine lv_bipush (v := -2) hx hb dX6_digit_7 (by decide) ?_
  exact hQ (-2 : Int32) 9 ls h dX6_digit_9
set_option maxHeartbeats 4000000 in
theorem ctX6_digit (l : Launch) {xo : Nat} {p1 : Int64} {p2 : Int32} {res : Int32} (hm : mX6_digit p1 p2 = some res) : Met l yX6_digit wsX6_digit rmX6_digit (va_Pc [.ref xo, .long p1, .int p2] (fun _ => True)) (kR (.int res)) 0 0 (fun _ => False) :=
  km (by decide) rfl (Nat.le_of_ble_eq_true rfl) (fun p e s m below meth c ls C hB hl => bX6_digit C p1 p2 res (fun v pc ls h hd => kr_i C h hd) hm ls hl)
theorem kdvX6_sight : yX6_sight.cls = RX6 ∧ yX6_sight.cls ≠ "java/lang/invoke/MethodHandle" ∧ yX6_sight.cls ≠ "java/lang/invoke/VarHandle" ∧ (parseMethodDescriptor yX6_sight.desc).map (fun d => d.parameters.length) = some 2 := by decide +kernel
abbrev rmX6_sight : Room := { frames := 1, cells := 0, slots := 0, locals := 25 }
def mlX6_sight_21 (x1 : Int64) (x3 : Int32) (kE : Int32 → Option Int32) : Nat → Int32 → Int32 → Option Int32
  | 0, _, _ => none
  | n + 1, x4, x5 => (if x5 < 0 then (kE x4) else (Option.bind (mX1_digitAhead x1 x5) (fun u6 => (md_jn (fun (x4_51 : Int32) => (md_let (x5 + (-1 : Int32)) (fun (x5_7 : Int32) => (mlX6_sight_21 x1 x3 kE n x4_51 x5_7)))) (fun kJ51 => (if u6 = 0 then (kJ51 x4) else (if x4 = x3 then (some u6) else (md_let (x4 + (1 : Int32)) (fun (x4_10 : Int32) => (kJ51 x4_10))))))))))
set_option maxHeartbeats 4000000 in
set_option maxRecDepth 100000 in
theorem lX6_sight_21 {p : Program} {l : Launch} {e : Env} {s : State} {m : MethodId} {args : Array Value} {below : List Frame} {meth : Method} {c : Code} {Q : State → Prop} (C : kc p s m args meth c cX6_sight 7 RX6 yX6_sight.name wsX6_sight (some .int)) {xo : Nat} (x1 : Int64) (x3 : Int32) (res : Int32) (hQ : ∀ (v : Int32) (pc : Nat) (ls : Array Slot), some v = some res → decode cX6_sight pc = .ok (.ireturn, 1) → W p l e rmX6_sight s m args below meth c s.heap [] 0 0 Q (F0 m pc ls [.int v])) (kE : Int32 → Option Int32) (hE : ∀ (y4 : Int32), kE y4 = some res → ∀ (ls : Array Slot), lv_has ls 7 [(3, .int x3), (4, .int y4)] → W p l e rmX6_sight s m args below meth c s.heap [] 0 0 Q (F0 m 57 ls [])) : ∀ (n : Nat), ∀ (x4 : Int32) (x5 : Int32), mlX6_sight_21 x1 x3 kE n x4 x5 = some res → ∀ (ls : Array Slot), lv_has ls 7 [(1, .long x1), (3, .int x3), (4, .int x4), (5, .int x5)] → W p l e rmX6_sight s m args below meth c s.heap [] 0 0 Q (F0 m 21 ls []) := by
  have C0 := C
  obtain ⟨hx, hb, hml, hown, hts, hr, hlk, hnm⟩ := C0
  intro n
  induction n with
  | zero => intro _ _ h; exact md_x h
  | succ n ih =>
    intro x4 x5 h ls hl
    rw [mlX6_sight_21] at h
    refine lv_iload hx hb dX6_sight_21 (lv_at hl 3 rfl) ?_
    refine lv_if_lt (tgt := 57) hx hb dX6_sight_23 (by decide) (fun c5 => ?_) (fun c5 => ?_)
    · replace h := md_t c5 h
      exact hE x4 h ls (lv_sub hl [1, 2] rfl)
    replace h := md_f c5 h
    refine lv_lload_n hx hb dX6_sight_26 rfl (lv_at hl 0 rfl) ?_
    refine lv_iload hx hb dX6_sight_27 (lv_at hl 3 rfl) ?_
    obtain ⟨u6, hu6, h⟩ := md_b h
    refine kS C (ctX1_digitAhead l  hu6) gX6_sight_X1_digitAhead rfl kdX1_digitAhead ⟨rfl, rfl⟩ ⟨by decide, by decide⟩ kT_blind (fun _ _ _ => trivial) rfl hl [] rfl (Nat.le_of_ble_eq_true rfl) dX6_sight_29 ⟨by decide, by decide⟩ ?_
    refine lv_istore (lv' := [(6, .int u6), (1, .long x1), (3, .int x3), (4, .int x4), (5, .int x5)]) hx hb dX6_sight_32 hl (by decide) rfl (fun ls hl => ?_)
    refine lv_iload hx hb dX6_sight_34 (lv_at hl 0 rfl) ?_
    obtain ⟨kJ51, ekJ51, h⟩ := md_jo h
    have KJ51 : ∀ (x4_51 : Int32), kJ51 x4_51 = some res → ∀ (ls : Array Slot), lv_has ls 7 [(1, .long x1), (3, .int x3), (4, .int x4_51), (5, .int x5)] → W p l e rmX6_sight s m args below meth c s.heap [] 0 0 Q (F0 m 51 ls []) := by
      intro x4_51 h ls hl
      rw [ekJ51] at h
      obtain ⟨x5_7, ex5_7⟩ : ∃ y : Int32, y = (x5 + (-1 : Int32)) := ⟨_, rfl⟩
      replace h := md_le ex5_7 h
      refine lv_iinc (v := x5_7) (lv' := [(5, .int x5_7), (1, .long x1), (3, .int x3), (4, .int x4_51)]) hx hb dX6_sight_51 hl (k := 3) rfl (by rw [ex5_7]; rfl) (by decide) rfl (fun ls hl => ?_)
      refine lv_goto (tgt := 21) hx hb dX6_sight_54 (by decide) ?_
      exact ih x4_51 x5_7 h ls (lv_sub hl [1, 2, 3, 0] rfl)
    clear ekJ51
    refine lv_if_eq (tgt := 51) hx hb dX6_sight_36 (by decide) (fun c8 => ?_) (fun c8 => ?_)
    · replace h := md_t c8 h
      exact KJ51 x4 h ls (lv_sub hl [1, 2, 3, 4] rfl)
    replace h := md_f c8 h
    refine lv_iload hx hb dX6_sight_39 (lv_at hl 3 rfl) ?_
    refine lv_iload_n hx hb dX6_sight_41 rfl (lv_at hl 2 rfl) ?_
    refine lv_icmp_ne (tgt := 48) hx hb dX6_sight_42 (by decide) (fun c9 => ?_) (fun c9 => ?_)
    · replace h := md_f c9 h
      obtain ⟨x4_10, ex4_10⟩ : ∃ y : Int32, y = (x4 + (1 : Int32)) := ⟨_, rfl⟩
      replace h := md_le ex4_10 h
      refine lv_iinc (v := x4_10) (lv' := [(4, .int x4_10), (6, .int u6), (1, .long x1), (3, .int x3), (5, .int x5)]) hx hb dX6_sight_48 hl (k := 3) rfl (by rw [ex4_10]; rfl) (by decide) rfl (fun ls hl => ?_)
      exact KJ51 x4_10 h ls (lv_sub hl [2, 3, 0, 4] rfl)
    replace h := md_t c9 h
    refine lv_iload hx hb dX6_sight_45 (lv_at hl 0 rfl) ?_
    exact hQ u6 47 ls h dX6_sight_47
def mX6_sight (p1 : Int64) (p2 : Int32) : Option Int32 := (Option.bind (mX1_isNumber p1) (fun u1 => (if u1 = 0 then (some (-2 : Int32)) else (Option.bind (mX1_length p1) (fun u3 => (md_let (u3 - (1 : Int32)) (fun (x5_4 : Int32) => (mlX6_sight_21 p1 p2 (fun (y4_57 : Int32) => (if p2 = (-1 : Int32) then (some y4_57) else (some (-6 : Int32)))) kN (0 : Int32) x5_4))))))))
set_option maxHeartbeats 4000000 in
set_option maxRecDepth 100000 in
theorem bX6_sight {p : Program} {l : Launch} {e : Env} {s : State} {m : MethodId} {args : Array Value} {below : List Frame} {meth : Method} {c : Code} {Q : State → Prop} (C : kc p s m args meth c cX6_sight 7 RX6 yX6_sight.name wsX6_sight (some .int)) {xo : Nat} (p1 : Int64) (p2 : Int32) (res : Int32) (hQ : ∀ (v : Int32) (pc : Nat) (ls : Array Slot), some v = some res → decode cX6_sight pc = .ok (.ireturn, 1) → W p l e rmX6_sight s m args below meth c s.heap [] 0 0 Q (F0 m pc ls [.int v])) : mX6_sight p1 p2 = some res → ∀ (ls : Array Slot), lv_has ls 7 [(0, .ref xo), (1, .long p1), (3, .int p2)] → W p l e rmX6_sight s m args below meth c s.heap [] 0 0 Q (F0 m 0 ls []) := by
  intro h ls hl
  have C0 := C
  obtain ⟨hx, hb, hml, hown, hts, hr, hlk, hnm⟩ := C0
  rw [mX6_sight] at h
  refine lv_lload_n hx hb dX6_sight_0 rfl (lv_at hl 1 rfl) ?_
  obtain ⟨u1, hu1, h⟩ := md_b h
  refine kS C (ctX1_isNumber l  hu1) gX6_sight_X1_isNumber rfl kdX1_isNumber ⟨rfl, rfl⟩ ⟨by decide, by decide⟩ kT_blind (fun _ _ _ => trivial) rfl hl [] rfl (Nat.le_of_ble_eq_true rfl) dX6_sight_1 ⟨by decide, by decide⟩ ?_
  refine lv_if_ne (tgt := 10) hx hb dX6_sight_4 (by decide) (fun c2 => ?_) (fun c2 => ?_)
  · replace h := md_f c2 h
    refine lv_iconst (v := 0) hx hb dX6_sight_10 (by decide) ?_
    refine lv_istore (lv' := [(4, .int (0 : Int32)), (0, .ref xo), (1, .long p1), (3, .int p2)]) hx hb dX6_sight_11 hl (by decide) rfl (fun ls hl => ?_)
    refine lv_lload_n hx hb dX6_sight_13 rfl (lv_at hl 2 rfl) ?_
    obtain ⟨u3, hu3, h⟩ := md_b h
    refine kS C (ctX1_length l  hu3) gX6_sight_X1_length rfl kdX1_length ⟨rfl, rfl⟩ ⟨by decide, by decide⟩ kT_blind (fun _ _ _ => trivial) rfl hl [] rfl (Nat.le_of_ble_eq_true rfl) dX6_sight_14 ⟨by decide, by decide⟩ ?_
    refine lv_iconst (v := 1) hx hb dX6_sight_17 (by decide) ?_
    refine lv_isub hx hb dX6_sight_18 ?_
    refine lv_topi (fun x5_4 ex5_4 => ?_)
    replace h := md_le ex5_4 h
    refine lv_istore (lv' := [(5, .int x5_4), (4, .int (0 : Int32)), (0, .ref xo), (1, .long p1), (3, .int p2)]) hx hb dX6_sight_19 hl (by decide) rfl (fun ls hl => ?_)
    refine lX6_sight_21 (xo := xo) C p1 p2 res hQ _ (fun y4_57 h ls hl => ?_) kN (0 : Int32) x5_4 h ls (lv_sub hl [3, 4, 1, 0] rfl)
    refine lv_iload_n hx hb dX6_sight_57 rfl (lv_at hl 0 rfl) ?_
    refine lv_iconst (v := -1) hx hb dX6_sight_58 (by decide) ?_
    refine lv_icmp_ne (tgt := 67) hx hb dX6_sight_59 (by decide) (fun c11 => ?_) (fun c11 => ?_)
    · replace h := md_f c11 h
      refine lv_bipush (v := -6) hx hb dX6_sight_67 (by decide) ?_
      exact hQ (-6 : Int32) 69 ls h dX6_sight_69
    replace h := md_t c11 h
    refine lv_iload hx hb dX6_sight_62 (lv_at hl 1 rfl) ?_
    refine lv_goto (tgt := 69) hx hb dX6_sight_64 (by decide) ?_
    exact hQ y4_57 69 ls h dX6_sight_69
  replace h := md_t c2 h
  refine lv_bipush (v := -2) hx hb dX6_sight_7 (by decide) ?_
  exact hQ (-2 : Int32) 9 ls h dX6_sight_9
set_option maxHeartbeats 4000000 in
theorem ctX6_sight (l : Launch) {xo : Nat} {p1 : Int64} {p2 : Int32} {res : Int32} (hm : mX6_sight p1 p2 = some res) : Met l yX6_sight wsX6_sight rmX6_sight (va_Pc [.ref xo, .long p1, .int p2] (fun _ => True)) (kR (.int res)) 0 0 (fun _ => False) :=
  km (by decide) rfl (Nat.le_of_ble_eq_true rfl) (fun p e s m below meth c ls C hB hl => bX6_sight C p1 p2 res (fun v pc ls h hd => kr_i C h hd) hm ls hl)
theorem wm_X6_like_0 : Cond.constantLong RX6 48 (-1000000000000000002) ∈ wsX6_like := by decide +kernel
theorem wm_X6_like_1 : Cond.constantLong RX6 71 (-1000000000000000006) ∈ wsX6_like := by decide +kernel
theorem kdvX6_like : yX6_like.cls = RX6 ∧ yX6_like.cls ≠ "java/lang/invoke/MethodHandle" ∧ yX6_like.cls ≠ "java/lang/invoke/VarHandle" ∧ (parseMethodDescriptor yX6_like.desc).map (fun d => d.parameters.length) = some 3 := by decide +kernel
abbrev rmX6_like : Room := { frames := 2, cells := 0, slots := 0, locals := 53 }
def mlX6_like_34 (x1 : Int64) (x3 : Int32) (x4 : Int32) (x5 : Int32) (kE : Int32 → Option Int64) : Nat → Int32 → Int32 → Option Int64
  | 0, _, _ => none
  | n + 1, x6, x7 => (if ((1 : Int32) <<< (x3 &&& 31)) ≤ x7 then (kE x6) else (Option.bind (mJ6_bitCount_0f7a4 x7) (fun u7 => (md_jn (fun (x6_69 : Int32) => (md_let (x7 + (2 : Int32)) (fun (x7_8 : Int32) => (mlX6_like_34 x1 x3 x4 x5 kE n x6_69 x7_8)))) (fun kJ69 => (if u7 = x5 then (if x6 = x4 then (Option.bind (mX1_spread x1 x7) (fun u12 => (some u12))) else (md_let (x6 + (1 : Int32)) (fun (x6_11 : Int32) => (kJ69 x6_11)))) else (kJ69 x6)))))))
set_option maxHeartbeats 4000000 in
set_option maxRecDepth 100000 in
theorem lX6_like_34 {p : Program} {l : Launch} {e : Env} {s : State} {m : MethodId} {args : Array Value} {below : List Frame} {meth : Method} {c : Code} {Q : State → Prop} (C : kc p s m args meth c cX6_like 8 RX6 yX6_like.name wsX6_like (some .long)) {xo : Nat} (x1 : Int64) (x3 : Int32) (x4 : Int32) (x5 : Int32) (res : Int64) (hQ : ∀ (v : Int64) (pc : Nat) (ls : Array Slot), some v = some res → decode cX6_like pc = .ok (.lreturn, 1) → W p l e rmX6_like s m args below meth c s.heap [] 0 0 Q (F0 m pc ls [.long v])) (kE : Int32 → Option Int64) (hE : ∀ (y6 : Int32), kE y6 = some res → ∀ (ls : Array Slot), lv_has ls 8 [(4, .int x4), (6, .int y6)] → W p l e rmX6_like s m args below meth c s.heap [] 0 0 Q (F0 m 75 ls [])) : ∀ (n : Nat), ∀ (x6 : Int32) (x7 : Int32), mlX6_like_34 x1 x3 x4 x5 kE n x6 x7 = some res → ∀ (ls : Array Slot), lv_has ls 8 [(1, .long x1), (3, .int x3), (4, .int x4), (5, .int x5), (6, .int x6), (7, .int x7)] → W p l e rmX6_like s m args below meth c s.heap [] 0 0 Q (F0 m 34 ls []) := by
  have C0 := C
  obtain ⟨hx, hb, hml, hown, hts, hr, hlk, hnm⟩ := C0
  intro n
  induction n with
  | zero => intro _ _ h; exact md_x h
  | succ n ih =>
    intro x6 x7 h ls hl
    rw [mlX6_like_34] at h
    refine lv_iload hx hb dX6_like_34 (lv_at hl 5 rfl) ?_
    refine lv_iconst (v := 1) hx hb dX6_like_36 (by decide) ?_
    refine lv_iload_n hx hb dX6_like_37 rfl (lv_at hl 1 rfl) ?_
    refine lv_ishl hx hb dX6_like_38 ?_
    refine lv_icmp_ge (tgt := 75) hx hb dX6_like_39 (by decide) (fun c6 => ?_) (fun c6 => ?_)
    · replace h := md_t c6 h
      exact hE x6 h ls (lv_sub hl [2, 4] rfl)
    replace h := md_f c6 h
    refine lv_iload hx hb dX6_like_42 (lv_at hl 5 rfl) ?_
    obtain ⟨u7, hu7, h⟩ := md_b h
    refine kS C (ctJ6_bitCount_0f7a4 l  hu7) gX6_like_J6_bitCount_0f7a4 rfl kdJ6_bitCount_0f7a4 ⟨rfl, rfl⟩ ⟨by decide, by decide⟩ kT_blind (fun _ _ _ => trivial) rfl hl [] rfl (Nat.le_of_ble_eq_true rfl) dX6_like_44 ⟨by decide, by decide⟩ ?_
    refine lv_iload hx hb dX6_like_47 (lv_at hl 3 rfl) ?_
    obtain ⟨kJ69, ekJ69, h⟩ := md_jo h
    have KJ69 : ∀ (x6_69 : Int32), kJ69 x6_69 = some res → ∀ (ls : Array Slot), lv_has ls 8 [(1, .long x1), (3, .int x3), (4, .int x4), (5, .int x5), (6, .int x6_69), (7, .int x7)] → W p l e rmX6_like s m args below meth c s.heap [] 0 0 Q (F0 m 69 ls []) := by
      intro x6_69 h ls hl
      rw [ekJ69] at h
      obtain ⟨x7_8, ex7_8⟩ : ∃ y : Int32, y = (x7 + (2 : Int32)) := ⟨_, rfl⟩
      replace h := md_le ex7_8 h
      refine lv_iinc (v := x7_8) (lv' := [(7, .int x7_8), (1, .long x1), (3, .int x3), (4, .int x4), (5, .int x5), (6, .int x6_69)]) hx hb dX6_like_69 hl (k := 5) rfl (by rw [ex7_8]; rfl) (by decide) rfl (fun ls hl => ?_)
      refine lv_goto (tgt := 34) hx hb dX6_like_72 (by decide) ?_
      exact ih x6_69 x7_8 h ls (lv_sub hl [1, 2, 3, 4, 5, 0] rfl)
    clear ekJ69
    refine lv_icmp_ne (tgt := 69) hx hb dX6_like_49 (by decide) (fun c9 => ?_) (fun c9 => ?_)
    · replace h := md_f c9 h
      exact KJ69 x6 h ls (lv_sub hl [0, 1, 2, 3, 4, 5] rfl)
    replace h := md_t c9 h
    refine lv_iload hx hb dX6_like_52 (lv_at hl 4 rfl) ?_
    refine lv_iload hx hb dX6_like_54 (lv_at hl 2 rfl) ?_
    refine lv_icmp_ne (tgt := 66) hx hb dX6_like_56 (by decide) (fun c10 => ?_) (fun c10 => ?_)
    · replace h := md_f c10 h
      obtain ⟨x6_11, ex6_11⟩ : ∃ y : Int32, y = (x6 + (1 : Int32)) := ⟨_, rfl⟩
      replace h := md_le ex6_11 h
      refine lv_iinc (v := x6_11) (lv' := [(6, .int x6_11), (1, .long x1), (3, .int x3), (4, .int x4), (5, .int x5), (7, .int x7)]) hx hb dX6_like_66 hl (k := 4) rfl (by rw [ex6_11]; rfl) (by decide) rfl (fun ls hl => ?_)
      exact KJ69 x6_11 h ls (lv_sub hl [1, 2, 3, 4, 0, 5] rfl)
    replace h := md_t c10 h
    refine lv_lload_n hx hb dX6_like_59 rfl (lv_at hl 0 rfl) ?_
    refine lv_iload hx hb dX6_like_60 (lv_at hl 5 rfl) ?_
    obtain ⟨u12, hu12, h⟩ := md_b h
    refine kS C (ctX1_spread l  hu12) gX6_like_X1_spread rfl kdX1_spread ⟨rfl, rfl⟩ ⟨by decide, by decide⟩ kT_blind (fun _ _ _ => trivial) rfl hl [] rfl (Nat.le_of_ble_eq_true rfl) dX6_like_62 ⟨by decide, by decide⟩ ?_
    exact hQ u12 65 ls h dX6_like_65
def mX6_like (p1 : Int64) (p2 : Int32) (p3 : Int32) : Option Int64 := (Option.bind (mX1_isNumber p1) (fun u1 => (if u1 = 0 then (some (-1000000000000000002 : Int64)) else (if p2 < (1 : Int32) then (some (-1000000000000000002 : Int64)) else (if p2 ≤ (8 : Int32) then (Option.bind (mX1_sightLength p1) (fun u5 => (mlX6_like_34 p1 p2 p3 u5 (fun (y6_75 : Int32) => (if p3 = (-1 : Int32) then (some (Int32.toInt64 y6_75)) else (some (-1000000000000000006 : Int64)))) kN (0 : Int32) (1 : Int32)))) else (some (-1000000000000000002 : Int64)))))))
set_option maxHeartbeats 4000000 in
set_option maxRecDepth 100000 in
theorem bX6_like {p : Program} {l : Launch} {e : Env} {s : State} {m : MethodId} {args : Array Value} {below : List Frame} {meth : Method} {c : Code} {Q : State → Prop} (C : kc p s m args meth c cX6_like 8 RX6 yX6_like.name wsX6_like (some .long)) {xo : Nat} (p1 : Int64) (p2 : Int32) (p3 : Int32) (res : Int64) (hQ : ∀ (v : Int64) (pc : Nat) (ls : Array Slot), some v = some res → decode cX6_like pc = .ok (.lreturn, 1) → W p l e rmX6_like s m args below meth c s.heap [] 0 0 Q (F0 m pc ls [.long v])) : mX6_like p1 p2 p3 = some res → ∀ (ls : Array Slot), lv_has ls 8 [(0, .ref xo), (1, .long p1), (3, .int p2), (4, .int p3)] → W p l e rmX6_like s m args below meth c s.heap [] 0 0 Q (F0 m 0 ls []) := by
  intro h ls hl
  have C0 := C
  obtain ⟨hx, hb, hml, hown, hts, hr, hlk, hnm⟩ := C0
  rw [mX6_like] at h
  refine lv_lload_n hx hb dX6_like_0 rfl (lv_at hl 1 rfl) ?_
  obtain ⟨u1, hu1, h⟩ := md_b h
  refine kS C (ctX1_isNumber l  hu1) gX6_like_X1_isNumber rfl kdX1_isNumber ⟨rfl, rfl⟩ ⟨by decide, by decide⟩ kT_blind (fun _ _ _ => trivial) rfl hl [] rfl (Nat.le_of_ble_eq_true rfl) dX6_like_1 ⟨by decide, by decide⟩ ?_
  refine lv_if_eq (tgt := 18) hx hb dX6_like_4 (by decide) (fun c2 => ?_) (fun c2 => ?_)
  · replace h := md_t c2 h
    refine lv_ldc2 hx hb hown (hts _ wm_X6_like_0) dX6_like_18 ?_
    exact hQ (-1000000000000000002 : Int64) 21 ls h dX6_like_21
  replace h := md_f c2 h
  refine lv_iload_n hx hb dX6_like_7 rfl (lv_at hl 2 rfl) ?_
  refine lv_iconst (v := 1) hx hb dX6_like_8 (by decide) ?_
  refine lv_icmp_lt (tgt := 18) hx hb dX6_like_9 (by decide) (fun c3 => ?_) (fun c3 => ?_)
  · replace h := md_t c3 h
    refine lv_ldc2 hx hb hown (hts _ wm_X6_like_0) dX6_like_18 ?_
    exact hQ (-1000000000000000002 : Int64) 21 ls h dX6_like_21
  replace h := md_f c3 h
  refine lv_iload_n hx hb dX6_like_12 rfl (lv_at hl 2 rfl) ?_
  refine lv_bipush (v := 8) hx hb dX6_like_13 (by decide) ?_
  refine lv_icmp_le (tgt := 22) hx hb dX6_like_15 (by decide) (fun c4 => ?_) (fun c4 => ?_)
  · replace h := md_t c4 h
    refine lv_lload_n hx hb dX6_like_22 rfl (lv_at hl 1 rfl) ?_
    obtain ⟨u5, hu5, h⟩ := md_b h
    refine kS C (ctX1_sightLength l  hu5) gX6_like_X1_sightLength rfl kdX1_sightLength ⟨rfl, rfl⟩ ⟨by decide, by decide⟩ kT_blind (fun _ _ _ => trivial) rfl hl [] rfl (Nat.le_of_ble_eq_true rfl) dX6_like_23 ⟨by decide, by decide⟩ ?_
    refine lv_istore (lv' := [(5, .int u5), (0, .ref xo), (1, .long p1), (3, .int p2), (4, .int p3)]) hx hb dX6_like_26 hl (by decide) rfl (fun ls hl => ?_)
    refine lv_iconst (v := 0) hx hb dX6_like_28 (by decide) ?_
    refine lv_istore (lv' := [(6, .int (0 : Int32)), (5, .int u5), (0, .ref xo), (1, .long p1), (3, .int p2), (4, .int p3)]) hx hb dX6_like_29 hl (by decide) rfl (fun ls hl => ?_)
    refine lv_iconst (v := 1) hx hb dX6_like_31 (by decide) ?_
    refine lv_istore (lv' := [(7, .int (1 : Int32)), (6, .int (0 : Int32)), (5, .int u5), (0, .ref xo), (1, .long p1), (3, .int p2), (4, .int p3)]) hx hb dX6_like_32 hl (by decide) rfl (fun ls hl => ?_)
    refine lX6_like_34 (xo := xo) C p1 p2 p3 u5 res hQ _ (fun y6_75 h ls hl => ?_) kN (0 : Int32) (1 : Int32) h ls (lv_sub hl [4, 5, 6, 2, 1, 0] rfl)
    refine lv_iload hx hb dX6_like_75 (lv_at hl 0 rfl) ?_
    refine lv_iconst (v := -1) hx hb dX6_like_77 (by decide) ?_
    refine lv_icmp_ne (tgt := 87) hx hb dX6_like_78 (by decide) (fun c13 => ?_) (fun c13 => ?_)
    · replace h := md_f c13 h
      refine lv_ldc2 hx hb hown (hts _ wm_X6_like_1) dX6_like_87 ?_
      exact hQ (-1000000000000000006 : Int64) 90 ls h dX6_like_90
    replace h := md_t c13 h
    refine lv_iload hx hb dX6_like_81 (lv_at hl 1 rfl) ?_
    refine lv_i2l hx hb dX6_like_83 rfl ?_
    refine lv_goto (tgt := 90) hx hb dX6_like_84 (by decide) ?_
    exact hQ (Int32.toInt64 y6_75) 90 ls h dX6_like_90
  replace h := md_f c4 h
  refine lv_ldc2 hx hb hown (hts _ wm_X6_like_0) dX6_like_18 ?_
  exact hQ (-1000000000000000002 : Int64) 21 ls h dX6_like_21
set_option maxHeartbeats 4000000 in
theorem ctX6_like (l : Launch) {xo : Nat} {p1 : Int64} {p2 : Int32} {p3 : Int32} {res : Int64} (hm : mX6_like p1 p2 p3 = some res) : Met l yX6_like wsX6_like rmX6_like (va_Pc [.ref xo, .long p1, .int p2, .int p3] (fun _ => True)) (kR (.long res)) 0 0 (fun _ => False) :=
  km (by decide) rfl (Nat.le_of_ble_eq_true rfl) (fun p e s m below meth c ls C hB hl => bX6_like C p1 p2 p3 res (fun v pc ls h hd => kr_l C h hd) hm ls hl)
theorem wm_X6_put_0 : Cond.constantLong RX6 48 (-1000000000000000002) ∈ wsX6_put := by decide +kernel
theorem wm_X6_put_1 : Cond.constantLong RX6 76 (167961600000000) ∈ wsX6_put := by decide +kernel
theorem wm_X6_put_2 : Cond.constantLong RX6 78 (-1000000000000000004) ∈ wsX6_put := by decide +kernel
theorem kdvX6_put : yX6_put.cls = RX6 ∧ yX6_put.cls ≠ "java/lang/invoke/MethodHandle" ∧ yX6_put.cls ≠ "java/lang/invoke/VarHandle" ∧ (parseMethodDescriptor yX6_put.desc).map (fun d => d.parameters.length) = some 3 := by decide +kernel
abbrev rmX6_put : Room := { frames := 1, cells := 0, slots := 0, locals := 25 }
def mX6_put (p1 : Int64) (p2 : Int64) (p3 : Int32) : Option Int64 := (Option.bind (mX1_isNumber p1) (fun u1 => (if u1 = 0 then (some (-1000000000000000002 : Int64)) else (Option.bind (mX1_isNumber p2) (fun u3 => (if u3 = 0 then (some (-1000000000000000002 : Int64)) else (if p3 < (-7 : Int32) then (some (-1000000000000000002 : Int64)) else (if p3 ≤ (7 : Int32) then (md_jn (fun (z0_57 : Int64) => (if (167961600000000 : Int64) ≤ z0_57 then (some (-1000000000000000004 : Int64)) else (Option.bind (mX1_strip z0_57) (fun u8 => (some u8))))) (fun kJ57 => (if 0 ≤ p3 then (Option.bind (mX1_raise p2 p3) (fun u10 => (kJ57 (p1 + u10)))) else (Option.bind (mX1_raise p1 (-p3)) (fun u11 => (kJ57 (u11 + p2))))))) else (some (-1000000000000000002 : Int64))))))))))
set_option maxHeartbeats 4000000 in
set_option maxRecDepth 100000 in
theorem bX6_put {p : Program} {l : Launch} {e : Env} {s : State} {m : MethodId} {args : Array Value} {below : List Frame} {meth : Method} {c : Code} {Q : State → Prop} (C : kc p s m args meth c cX6_put 8 RX6 yX6_put.name wsX6_put (some .long)) {xo : Nat} (p1 : Int64) (p2 : Int64) (p3 : Int32) (res : Int64) (hQ : ∀ (v : Int64) (pc : Nat) (ls : Array Slot), some v = some res → decode cX6_put pc = .ok (.lreturn, 1) → W p l e rmX6_put s m args below meth c s.heap [] 0 0 Q (F0 m pc ls [.long v])) : mX6_put p1 p2 p3 = some res → ∀ (ls : Array Slot), lv_has ls 8 [(0, .ref xo), (1, .long p1), (3, .long p2), (5, .int p3)] → W p l e rmX6_put s m args below meth c s.heap [] 0 0 Q (F0 m 0 ls []) := by
  intro h ls hl
  have C0 := C
  obtain ⟨hx, hb, hml, hown, hts, hr, hlk, hnm⟩ := C0
  rw [mX6_put] at h
  refine lv_lload_n hx hb dX6_put_0 rfl (lv_at hl 1 rfl) ?_
  obtain ⟨u1, hu1, h⟩ := md_b h
  refine kS C (ctX1_isNumber l  hu1) gX6_put_X1_isNumber rfl kdX1_isNumber ⟨rfl, rfl⟩ ⟨by decide, by decide⟩ kT_blind (fun _ _ _ => trivial) rfl hl [] rfl (Nat.le_of_ble_eq_true rfl) dX6_put_1 ⟨by decide, by decide⟩ ?_
  refine lv_if_eq (tgt := 28) hx hb dX6_put_4 (by decide) (fun c2 => ?_) (fun c2 => ?_)
  · replace h := md_t c2 h
    refine lv_ldc2 hx hb hown (hts _ wm_X6_put_0) dX6_put_28 ?_
    exact hQ (-1000000000000000002 : Int64) 31 ls h dX6_put_31
  replace h := md_f c2 h
  refine lv_lload_n hx hb dX6_put_7 rfl (lv_at hl 2 rfl) ?_
  obtain ⟨u3, hu3, h⟩ := md_b h
  refine kS C (ctX1_isNumber l  hu3) gX6_put_X1_isNumber rfl kdX1_isNumber ⟨rfl, rfl⟩ ⟨by decide, by decide⟩ kT_blind (fun _ _ _ => trivial) rfl hl [] rfl (Nat.le_of_ble_eq_true rfl) dX6_put_8 ⟨by decide, by decide⟩ ?_
  refine lv_if_eq (tgt := 28) hx hb dX6_put_11 (by decide) (fun c4 => ?_) (fun c4 => ?_)
  · replace h := md_t c4 h
    refine lv_ldc2 hx hb hown (hts _ wm_X6_put_0) dX6_put_28 ?_
    exact hQ (-1000000000000000002 : Int64) 31 ls h dX6_put_31
  replace h := md_f c4 h
  refine lv_iload hx hb dX6_put_14 (lv_at hl 3 rfl) ?_
  refine lv_bipush (v := -7) hx hb dX6_put_16 (by decide) ?_
  refine lv_icmp_lt (tgt := 28) hx hb dX6_put_18 (by decide) (fun c5 => ?_) (fun c5 => ?_)
  · replace h := md_t c5 h
    refine lv_ldc2 hx hb hown (hts _ wm_X6_put_0) dX6_put_28 ?_
    exact hQ (-1000000000000000002 : Int64) 31 ls h dX6_put_31
  replace h := md_f c5 h
  refine lv_iload hx hb dX6_put_21 (lv_at hl 3 rfl) ?_
  refine lv_bipush (v := 7) hx hb dX6_put_23 (by decide) ?_
  refine lv_icmp_le (tgt := 32) hx hb dX6_put_25 (by decide) (fun c6 => ?_) (fun c6 => ?_)
  · replace h := md_t c6 h
    refine lv_iload hx hb dX6_put_32 (lv_at hl 3 rfl) ?_
    obtain ⟨kJ57, ekJ57, h⟩ := md_jo h
    have KJ57 : ∀ (z0_57 : Int64), kJ57 z0_57 = some res → ∀ (ls : Array Slot), lv_has ls 8 [] → W p l e rmX6_put s m args below meth c s.heap [] 0 0 Q (F0 m 57 ls [.long z0_57]) := by
      intro z0_57 h ls hl
      rw [ekJ57] at h
      refine lv_lstore (lv' := [(6, .long z0_57)]) hx hb dX6_put_57 hl (by decide) rfl (fun ls hl => ?_)
      refine lv_lload hx hb dX6_put_59 (lv_at hl 0 rfl) ?_
      refine lv_ldc2 hx hb hown (hts _ wm_X6_put_1) dX6_put_61 ?_
      refine W.lcmp hx hb dX6_put_64 ?_
      refine lv_if_ge (tgt := 76) hx hb dX6_put_65 (by decide) (fun c7 => ?_) (fun c7 => ?_)
      · replace c7 := (lg_cmp_ge _ _).mp c7
        replace h := md_t c7 h
        refine lv_ldc2 hx hb hown (hts _ wm_X6_put_2) dX6_put_76 ?_
        exact hQ (-1000000000000000004 : Int64) 79 ls h dX6_put_79
      replace c7 := fun q9 => c7 ((lg_cmp_ge _ _).mpr q9)
      replace h := md_f c7 h
      refine lv_lload hx hb dX6_put_68 (lv_at hl 0 rfl) ?_
      obtain ⟨u8, hu8, h⟩ := md_b h
      refine kS C (ctX1_strip l  hu8) gX6_put_X1_strip rfl kdX1_strip ⟨rfl, rfl⟩ ⟨by decide, by decide⟩ kT_blind (fun _ _ _ => trivial) rfl hl [] rfl (Nat.le_of_ble_eq_true rfl) dX6_put_70 ⟨by decide, by decide⟩ ?_
      refine lv_goto (tgt := 79) hx hb dX6_put_73 (by decide) ?_
      exact hQ u8 79 ls h dX6_put_79
    clear ekJ57
    refine lv_if_ge (tgt := 49) hx hb dX6_put_34 (by decide) (fun c9 => ?_) (fun c9 => ?_)
    · replace h := md_t c9 h
      refine lv_lload_n hx hb dX6_put_49 rfl (lv_at hl 1 rfl) ?_
      refine lv_lload_n hx hb dX6_put_50 rfl (lv_at hl 2 rfl) ?_
      refine lv_iload hx hb dX6_put_51 (lv_at hl 3 rfl) ?_
      obtain ⟨u10, hu10, h⟩ := md_b h
      refine kS C (ctX1_raise l  hu10) gX6_put_X1_raise rfl kdX1_raise ⟨rfl, rfl⟩ ⟨by decide, by decide⟩ kT_blind (fun _ _ _ => trivial) rfl hl [.long p1] rfl (Nat.le_of_ble_eq_true rfl) dX6_put_53 ⟨by decide, by decide⟩ ?_
      refine lv_ladd hx hb dX6_put_56 ?_
      exact KJ57 (p1 + u10) h ls (lv_sub hl [] rfl)
    replace h := md_f c9 h
    refine lv_lload_n hx hb dX6_put_37 rfl (lv_at hl 1 rfl) ?_
    refine lv_iload hx hb dX6_put_38 (lv_at hl 3 rfl) ?_
    refine lv_ineg hx hb dX6_put_40 ?_
    obtain ⟨u11, hu11, h⟩ := md_b h
    refine kS C (ctX1_raise l  hu11) gX6_put_X1_raise rfl kdX1_raise ⟨rfl, rfl⟩ ⟨by decide, by decide⟩ kT_blind (fun _ _ _ => trivial) rfl hl [] rfl (Nat.le_of_ble_eq_true rfl) dX6_put_41 ⟨by decide, by decide⟩ ?_
    refine lv_lload_n hx hb dX6_put_44 rfl (lv_at hl 2 rfl) ?_
    refine lv_ladd hx hb dX6_put_45 ?_
    refine lv_goto (tgt := 57) hx hb dX6_put_46 (by decide) ?_
    exact KJ57 (u11 + p2) h ls (lv_sub hl [] rfl)
  replace h := md_f c6 h
  refine lv_ldc2 hx hb hown (hts _ wm_X6_put_0) dX6_put_28 ?_
  exact hQ (-1000000000000000002 : Int64) 31 ls h dX6_put_31
set_option maxHeartbeats 4000000 in
theorem ctX6_put (l : Launch) {xo : Nat} {p1 : Int64} {p2 : Int64} {p3 : Int32} {res : Int64} (hm : mX6_put p1 p2 p3 = some res) : Met l yX6_put wsX6_put rmX6_put (va_Pc [.ref xo, .long p1, .long p2, .int p3] (fun _ => True)) (kR (.long res)) 0 0 (fun _ => False) :=
  km (by decide) rfl (Nat.le_of_ble_eq_true rfl) (fun p e s m below meth c ls C hB hl => bX6_put C p1 p2 p3 res (fun v pc ls h hd => kr_l C h hd) hm ls hl)
theorem kdvX6_even : yX6_even.cls = RX6 ∧ yX6_even.cls ≠ "java/lang/invoke/MethodHandle" ∧ yX6_even.cls ≠ "java/lang/invoke/VarHandle" ∧ (parseMethodDescriptor yX6_even.desc).map (fun d => d.parameters.length) = some 1 := by decide +kernel
abbrev rmX6_even : Room := { frames := 2, cells := 0, slots := 0, locals := 46 }
def mX6_even (p1 : Int64) : Option Int32 := (Option.bind (mX1_isNumber p1) (fun u1 => (if u1 = 0 then (some (-2 : Int32)) else (Option.bind (mX4_isEven p1) (fun u3 => (if u3 = 0 then (some (0 : Int32)) else (some (1 : Int32))))))))
set_option maxHeartbeats 4000000 in
set_option maxRecDepth 100000 in
theorem bX6_even {p : Program} {l : Launch} {e : Env} {s : State} {m : MethodId} {args : Array Value} {below : List Frame} {meth : Method} {c : Code} {Q : State → Prop} (C : kc p s m args meth c cX6_even 3 RX6 yX6_even.name wsX6_even (some .int)) {xo : Nat} (p1 : Int64) (res : Int32) (hQ : ∀ (v : Int32) (pc : Nat) (ls : Array Slot), some v = some res → decode cX6_even pc = .ok (.ireturn, 1) → W p l e rmX6_even s m args below meth c s.heap [] 0 0 Q (F0 m pc ls [.int v])) : mX6_even p1 = some res → ∀ (ls : Array Slot), lv_has ls 3 [(0, .ref xo), (1, .long p1)] → W p l e rmX6_even s m args below meth c s.heap [] 0 0 Q (F0 m 0 ls []) := by
  intro h ls hl
  have C0 := C
  obtain ⟨hx, hb, hml, hown, hts, hr, hlk, hnm⟩ := C0
  rw [mX6_even] at h
  refine lv_lload_n hx hb dX6_even_0 rfl (lv_at hl 1 rfl) ?_
  obtain ⟨u1, hu1, h⟩ := md_b h
  refine kS C (ctX1_isNumber l  hu1) gX6_even_X1_isNumber rfl kdX1_isNumber ⟨rfl, rfl⟩ ⟨by decide, by decide⟩ kT_blind (fun _ _ _ => trivial) rfl hl [] rfl (Nat.le_of_ble_eq_true rfl) dX6_even_1 ⟨by decide, by decide⟩ ?_
  refine lv_if_ne (tgt := 10) hx hb dX6_even_4 (by decide) (fun c2 => ?_) (fun c2 => ?_)
  · replace h := md_f c2 h
    refine lv_lload_n hx hb dX6_even_10 rfl (lv_at hl 1 rfl) ?_
    obtain ⟨u3, hu3, h⟩ := md_b h
    refine kS C (ctX4_isEven l  hu3) gX6_even_X4_isEven rfl kdX4_isEven ⟨rfl, rfl⟩ ⟨by decide, by decide⟩ kT_blind (fun _ _ _ => trivial) rfl hl [] rfl (Nat.le_of_ble_eq_true rfl) dX6_even_11 ⟨by decide, by decide⟩ ?_
    refine lv_if_eq (tgt := 21) hx hb dX6_even_14 (by decide) (fun c4 => ?_) (fun c4 => ?_)
    · replace h := md_t c4 h
      refine lv_iconst (v := 0) hx hb dX6_even_21 (by decide) ?_
      exact hQ (0 : Int32) 22 ls h dX6_even_22
    replace h := md_f c4 h
    refine lv_iconst (v := 1) hx hb dX6_even_17 (by decide) ?_
    refine lv_goto (tgt := 22) hx hb dX6_even_18 (by decide) ?_
    exact hQ (1 : Int32) 22 ls h dX6_even_22
  replace h := md_t c2 h
  refine lv_bipush (v := -2) hx hb dX6_even_7 (by decide) ?_
  exact hQ (-2 : Int32) 9 ls h dX6_even_9
set_option maxHeartbeats 4000000 in
theorem ctX6_even (l : Launch) {xo : Nat} {p1 : Int64} {res : Int32} (hm : mX6_even p1 = some res) : Met l yX6_even wsX6_even rmX6_even (va_Pc [.ref xo, .long p1] (fun _ => True)) (kR (.int res)) 0 0 (fun _ => False) :=
  km (by decide) rfl (Nat.le_of_ble_eq_true rfl) (fun p e s m below meth c ls C hB hl => bX6_even C p1 res (fun v pc ls h hd => kr_i C h hd) hm ls hl)
theorem wm_X6_turned_0 : Cond.constantLong RX6 76 (167961600000000) ∈ wsX6_turned := by decide +kernel
theorem wm_X6_turned_1 : Cond.constantLong RX6 78 (-1000000000000000004) ∈ wsX6_turned := by decide +kernel
theorem wm_X6_turned_2 : Cond.constantLong RX6 85 (-1000000000000000005) ∈ wsX6_turned := by decide +kernel
theorem wm_X6_turned_3 : Cond.constantLong RX6 48 (-1000000000000000002) ∈ wsX6_turned := by decide +kernel
theorem kdvX6_turned : yX6_turned.cls = RX6 ∧ yX6_turned.cls ≠ "java/lang/invoke/MethodHandle" ∧ yX6_turned.cls ≠ "java/lang/invoke/VarHandle" ∧ (parseMethodDescriptor yX6_turned.desc).map (fun d => d.parameters.length) = some 1 := by decide +kernel
abbrev rmX6_turned : Room := { frames := 3, cells := 0, slots := 0, locals := 68 }
def mX6_turned (p1 : Int64) : Option Int64 := (Option.bind (mX1_isNumber p1) (fun u1 => (if u1 = 0 then (some (-1000000000000000002 : Int64)) else (Option.bind (mX4_isEven p1) (fun u3 => (if u3 = 0 then (some (-1000000000000000005 : Int64)) else (Option.bind (mX4_turnOver p1) (fun u5 => (if (167961600000000 : Int64) ≤ u5 then (some (-1000000000000000004 : Int64)) else (some u5))))))))))
set_option maxHeartbeats 4000000 in
set_option maxRecDepth 100000 in
theorem bX6_turned {p : Program} {l : Launch} {e : Env} {s : State} {m : MethodId} {args : Array Value} {below : List Frame} {meth : Method} {c : Code} {Q : State → Prop} (C : kc p s m args meth c cX6_turned 5 RX6 yX6_turned.name wsX6_turned (some .long)) {xo : Nat} (p1 : Int64) (res : Int64) (hQ : ∀ (v : Int64) (pc : Nat) (ls : Array Slot), some v = some res → decode cX6_turned pc = .ok (.lreturn, 1) → W p l e rmX6_turned s m args below meth c s.heap [] 0 0 Q (F0 m pc ls [.long v])) : mX6_turned p1 = some res → ∀ (ls : Array Slot), lv_has ls 5 [(0, .ref xo), (1, .long p1)] → W p l e rmX6_turned s m args below meth c s.heap [] 0 0 Q (F0 m 0 ls []) := by
  intro h ls hl
  have C0 := C
  obtain ⟨hx, hb, hml, hown, hts, hr, hlk, hnm⟩ := C0
  rw [mX6_turned] at h
  refine lv_lload_n hx hb dX6_turned_0 rfl (lv_at hl 1 rfl) ?_
  obtain ⟨u1, hu1, h⟩ := md_b h
  refine kS C (ctX1_isNumber l  hu1) gX6_turned_X1_isNumber rfl kdX1_isNumber ⟨rfl, rfl⟩ ⟨by decide, by decide⟩ kT_blind (fun _ _ _ => trivial) rfl hl [] rfl (Nat.le_of_ble_eq_true rfl) dX6_turned_1 ⟨by decide, by decide⟩ ?_
  refine lv_if_ne (tgt := 11) hx hb dX6_turned_4 (by decide) (fun c2 => ?_) (fun c2 => ?_)
  · replace h := md_f c2 h
    refine lv_lload_n hx hb dX6_turned_11 rfl (lv_at hl 1 rfl) ?_
    obtain ⟨u3, hu3, h⟩ := md_b h
    refine kS C (ctX4_isEven l  hu3) gX6_turned_X4_isEven rfl kdX4_isEven ⟨rfl, rfl⟩ ⟨by decide, by decide⟩ kT_blind (fun _ _ _ => trivial) rfl hl [] rfl (Nat.le_of_ble_eq_true rfl) dX6_turned_12 ⟨by decide, by decide⟩ ?_
    refine lv_if_ne (tgt := 22) hx hb dX6_turned_15 (by decide) (fun c4 => ?_) (fun c4 => ?_)
    · replace h := md_f c4 h
      refine lv_lload_n hx hb dX6_turned_22 rfl (lv_at hl 1 rfl) ?_
      obtain ⟨u5, hu5, h⟩ := md_b h
      refine kS C (ctX4_turnOver l  hu5) gX6_turned_X4_turnOver rfl kdX4_turnOver ⟨rfl, rfl⟩ ⟨by decide, by decide⟩ kT_blind (fun _ _ _ => trivial) rfl hl [] rfl (Nat.le_of_ble_eq_true rfl) dX6_turned_23 ⟨by decide, by decide⟩ ?_
      refine lv_lstore_n (lv' := [(3, .long u5), (0, .ref xo), (1, .long p1)]) hx hb dX6_turned_26 rfl hl (by decide) rfl (fun ls hl => ?_)
      refine lv_lload_n hx hb dX6_turned_27 rfl (lv_at hl 0 rfl) ?_
      refine lv_ldc2 hx hb hown (hts _ wm_X6_turned_0) dX6_turned_28 ?_
      refine W.lcmp hx hb dX6_turned_31 ?_
      refine lv_if_ge (tgt := 39) hx hb dX6_turned_32 (by decide) (fun c6 => ?_) (fun c6 => ?_)
      · replace c6 := (lg_cmp_ge _ _).mp c6
        replace h := md_t c6 h
        refine lv_ldc2 hx hb hown (hts _ wm_X6_turned_1) dX6_turned_39 ?_
        exact hQ (-1000000000000000004 : Int64) 42 ls h dX6_turned_42
      replace c6 := fun q9 => c6 ((lg_cmp_ge _ _).mpr q9)
      replace h := md_f c6 h
      refine lv_lload_n hx hb dX6_turned_35 rfl (lv_at hl 0 rfl) ?_
      refine lv_goto (tgt := 42) hx hb dX6_turned_36 (by decide) ?_
      exact hQ u5 42 ls h dX6_turned_42
    replace h := md_t c4 h
    refine lv_ldc2 hx hb hown (hts _ wm_X6_turned_2) dX6_turned_18 ?_
    exact hQ (-1000000000000000005 : Int64) 21 ls h dX6_turned_21
  replace h := md_t c2 h
  refine lv_ldc2 hx hb hown (hts _ wm_X6_turned_3) dX6_turned_7 ?_
  exact hQ (-1000000000000000002 : Int64) 10 ls h dX6_turned_10
set_option maxHeartbeats 4000000 in
theorem ctX6_turned (l : Launch) {xo : Nat} {p1 : Int64} {res : Int64} (hm : mX6_turned p1 = some res) : Met l yX6_turned wsX6_turned rmX6_turned (va_Pc [.ref xo, .long p1] (fun _ => True)) (kR (.long res)) 0 0 (fun _ => False) :=
  km (by decide) rfl (Nat.le_of_ble_eq_true rfl) (fun p e s m below meth c ls C hB hl => bX6_turned C p1 res (fun v pc ls h hd => kr_l C h hd) hm ls hl)
theorem kdvX6_list : yX6_list.cls = RX6 ∧ yX6_list.cls ≠ "java/lang/invoke/MethodHandle" ∧ yX6_list.cls ≠ "java/lang/invoke/VarHandle" ∧ (parseMethodDescriptor yX6_list.desc).map (fun d => d.parameters.length) = some 1 := by decide +kernel
abbrev rmX6_list : Room := { frames := 1, cells := 0, slots := 0, locals := 20 }
def mX6_list (p1 : Int32) : Option Int32 := (if p1 = (-1 : Int32) then (Option.bind (mX4_listRows) (fun u6 => (some u6))) else (if p1 < 0 then (some (-1 : Int32)) else (Option.bind (mX4_listRows) (fun u3 => (if u3 ≤ p1 then (some (-1 : Int32)) else (Option.bind (mX4_listed p1) (fun u5 => (some u5))))))))
set_option maxHeartbeats 4000000 in
set_option maxRecDepth 100000 in
theorem bX6_list {p : Program} {l : Launch} {e : Env} {s : State} {m : MethodId} {args : Array Value} {below : List Frame} {meth : Method} {c : Code} {Q : State → Prop} (C : kc p s m args meth c cX6_list 2 RX6 yX6_list.name wsX6_list (some .int)) {D : va_G} {cI cT : ClassId} {xo : Nat} {aL : Nat × Nat} (p1 : Int32) (hK : va_K D vwCl (kTy cI cT) s) (hLz : kLz aL (fun _ => False) s s.heap) (hP : va_P D vwCl [] s.heap) (res : Int32) (hQ : ∀ (v : Int32) (pc : Nat) (ls : Array Slot), some v = some res → decode cX6_list pc = .ok (.ireturn, 1) → W p l e rmX6_list s m args below meth c s.heap [] 0 0 Q (F0 m pc ls [.int v])) : mX6_list p1 = some res → ∀ (ls : Array Slot), lv_has ls 2 [(0, .ref xo), (1, .int p1)] → W p l e rmX6_list s m args below meth c s.heap [] 0 0 Q (F0 m 0 ls []) := by
  intro h ls hl
  have C0 := C
  obtain ⟨hx, hb, hml, hown, hts, hr, hlk, hnm⟩ := C0
  rw [mX6_list] at h
  refine lv_iload_n hx hb dX6_list_0 rfl (lv_at hl 1 rfl) ?_
  refine lv_iconst (v := -1) hx hb dX6_list_1 (by decide) ?_
  refine lv_icmp_ne (tgt := 9) hx hb dX6_list_2 (by decide) (fun c1 => ?_) (fun c1 => ?_)
  · replace h := md_f c1 h
    refine lv_iload_n hx hb dX6_list_9 rfl (lv_at hl 1 rfl) ?_
    refine lv_if_lt (tgt := 27) hx hb dX6_list_10 (by decide) (fun c2 => ?_) (fun c2 => ?_)
    · replace h := md_t c2 h
      refine lv_iconst (v := -1) hx hb dX6_list_27 (by decide) ?_
      exact hQ (-1 : Int32) 28 ls h dX6_list_28
    replace h := md_f c2 h
    refine lv_iload_n hx hb dX6_list_13 rfl (lv_at hl 1 rfl) ?_
    obtain ⟨u3, hu3, h⟩ := md_b h
    refine kS C (ctX4_listRows l  hu3) gX6_list_X4_listRows rfl kdX4_listRows ⟨rfl, rfl⟩ ⟨by decide, by decide⟩ kW_blind (kW_use hK va_P0 (kL_ro hLz (fun _ q => q))) rfl hl [.int p1] rfl (Nat.le_of_ble_eq_true rfl) dX6_list_14 ⟨by decide, by decide⟩ ?_
    refine lv_icmp_ge (tgt := 27) hx hb dX6_list_17 (by decide) (fun c4 => ?_) (fun c4 => ?_)
    · replace h := md_t c4 h
      refine lv_iconst (v := -1) hx hb dX6_list_27 (by decide) ?_
      exact hQ (-1 : Int32) 28 ls h dX6_list_28
    replace h := md_f c4 h
    refine lv_iload_n hx hb dX6_list_20 rfl (lv_at hl 1 rfl) ?_
    obtain ⟨u5, hu5, h⟩ := md_b h
    refine kS C (ctX4_listed l  hu5) gX6_list_X4_listed rfl kdX4_listed ⟨rfl, rfl⟩ ⟨by decide, by decide⟩ kW_blind (kW_use hK va_P0 (kL_ro hLz (fun _ q => q))) rfl hl [] rfl (Nat.le_of_ble_eq_true rfl) dX6_list_21 ⟨by decide, by decide⟩ ?_
    refine lv_goto (tgt := 28) hx hb dX6_list_24 (by decide) ?_
    exact hQ u5 28 ls h dX6_list_28
  replace h := md_t c1 h
  obtain ⟨u6, hu6, h⟩ := md_b h
  refine kS C (ctX4_listRows l  hu6) gX6_list_X4_listRows rfl kdX4_listRows ⟨rfl, rfl⟩ ⟨by decide, by decide⟩ kW_blind (kW_use hK va_P0 (kL_ro hLz (fun _ q => q))) rfl hl [] rfl (Nat.le_of_ble_eq_true rfl) dX6_list_5 ⟨by decide, by decide⟩ ?_
  exact hQ u6 8 ls h dX6_list_8
set_option maxHeartbeats 4000000 in
theorem ctX6_list (l : Launch) {D : va_G} {cI cT : ClassId} {xo : Nat} {aL : Nat × Nat} {p1 : Int32} {res : Int32} (hm : mX6_list p1 = some res) : Met l yX6_list wsX6_list rmX6_list (va_Pc [.ref xo, .int p1] (kW D cI cT [] (some aL) (fun _ => False))) (kR (.int res)) 0 0 (fun _ => False) :=
  km (by decide) rfl (Nat.le_of_ble_eq_true rfl) (fun p e s m below meth c ls C hB hl => bX6_list C p1 hB.1 (hB.2.2 aL rfl) hB.2.1 res (fun v pc ls h hd => kr_i C h hd) hm ls hl)
theorem kdvX6_factor : yX6_factor.cls = RX6 ∧ yX6_factor.cls ≠ "java/lang/invoke/MethodHandle" ∧ yX6_factor.cls ≠ "java/lang/invoke/VarHandle" ∧ (parseMethodDescriptor yX6_factor.desc).map (fun d => d.parameters.length) = some 2 := by decide +kernel
abbrev rmX6_factor : Room := { frames := 2, cells := 0, slots := 0, locals := 46 }
def mlX6_factor_32 (x3 : Int32) (kE : Int32 → Option Int32) : Nat → Int64 → Int32 → Int32 → Option Int32
  | 0, _, _, _ => none
  | n + 1, x4, x6, x7 => (if (48 : Int32) ≤ x7 then (kE x6) else (if x4 ≤ (1 : Int64) then (kE x6) else (Option.bind (mX4_greatestListed x4) (fun u8 => (if x6 = x3 then (some u8) else (md_let (x6 + (1 : Int32)) (fun (x6_10 : Int32) => (md_jn (fun (z0_84 : Int64) => (md_let (x7 + (1 : Int32)) (fun (x7_11 : Int32) => (mlX6_factor_32 x3 kE n z0_84 x6_10 x7_11)))) (fun kJ84 => (if u8 ≤ (1 : Int32) then (kJ84 (1 : Int64)) else (if (Int32.toInt64 u8) = 0 then none else (Option.bind (mX1_strip (x4 / (Int32.toInt64 u8))) (fun u14 => (kJ84 u14))))))))))))))
set_option maxHeartbeats 4000000 in
set_option maxRecDepth 100000 in
theorem lX6_factor_32 {p : Program} {l : Launch} {e : Env} {s : State} {m : MethodId} {args : Array Value} {below : List Frame} {meth : Method} {c : Code} {Q : State → Prop} (C : kc p s m args meth c cX6_factor 9 RX6 yX6_factor.name wsX6_factor (some .int)) {D : va_G} {cI cT : ClassId} {xo : Nat} {aL : Nat × Nat} (hK : va_K D vwCl (kTy cI cT) s) (hLz : kLz aL (fun _ => False) s s.heap) (x3 : Int32) (hP : va_P D vwCl [] s.heap) (res : Int32) (hQ : ∀ (v : Int32) (pc : Nat) (ls : Array Slot), some v = some res → decode cX6_factor pc = .ok (.ireturn, 1) → W p l e rmX6_factor s m args below meth c s.heap [] 0 0 Q (F0 m pc ls [.int v])) (kE : Int32 → Option Int32) (hE : ∀ (y6 : Int32), kE y6 = some res → ∀ (ls : Array Slot), lv_has ls 9 [(3, .int x3), (6, .int y6)] → W p l e rmX6_factor s m args below meth c s.heap [] 0 0 Q (F0 m 92 ls [])) : ∀ (n : Nat), ∀ (x4 : Int64) (x6 : Int32) (x7 : Int32), mlX6_factor_32 x3 kE n x4 x6 x7 = some res → ∀ (ls : Array Slot), lv_has ls 9 [(3, .int x3), (4, .long x4), (6, .int x6), (7, .int x7)] → W p l e rmX6_factor s m args below meth c s.heap [] 0 0 Q (F0 m 32 ls []) := by
  have C0 := C
  obtain ⟨hx, hb, hml, hown, hts, hr, hlk, hnm⟩ := C0
  intro n
  induction n with
  | zero => intro _ _ _ h; exact md_x h
  | succ n ih =>
    intro x4 x6 x7 h ls hl
    rw [mlX6_factor_32] at h
    refine lv_iload hx hb dX6_factor_32 (lv_at hl 3 rfl) ?_
    refine lv_bipush (v := 48) hx hb dX6_factor_34 (by decide) ?_
    refine lv_icmp_ge (tgt := 92) hx hb dX6_factor_36 (by decide) (fun c6 => ?_) (fun c6 => ?_)
    · replace h := md_t c6 h
      exact hE x6 h ls (lv_sub hl [0, 2] rfl)
    replace h := md_f c6 h
    refine lv_lload hx hb dX6_factor_39 (lv_at hl 1 rfl) ?_
    refine lv_lconst (v := 1) hx hb dX6_factor_41 (by decide) ?_
    refine W.lcmp hx hb dX6_factor_42 ?_
    refine lv_if_le (tgt := 92) hx hb dX6_factor_43 (by decide) (fun c7 => ?_) (fun c7 => ?_)
    · replace c7 := (lg_cmp_le _ _).mp c7
      replace h := md_t c7 h
      exact hE x6 h ls (lv_sub hl [0, 2] rfl)
    replace c7 := fun q9 => c7 ((lg_cmp_le _ _).mpr q9)
    replace h := md_f c7 h
    refine lv_lload hx hb dX6_factor_46 (lv_at hl 1 rfl) ?_
    obtain ⟨u8, hu8, h⟩ := md_b h
    refine kS C (ctX4_greatestListed l  hu8) gX6_factor_X4_greatestListed rfl kdX4_greatestListed ⟨rfl, rfl⟩ ⟨by decide, by decide⟩ kW_blind (kW_use hK va_P0 (kL_ro hLz (fun _ q => q))) rfl hl [] rfl (Nat.le_of_ble_eq_true rfl) dX6_factor_48 ⟨by decide, by decide⟩ ?_
    refine lv_istore (lv' := [(8, .int u8), (3, .int x3), (4, .long x4), (6, .int x6), (7, .int x7)]) hx hb dX6_factor_51 hl (by decide) rfl (fun ls hl => ?_)
    refine lv_iload hx hb dX6_factor_53 (lv_at hl 3 rfl) ?_
    refine lv_iload_n hx hb dX6_factor_55 rfl (lv_at hl 1 rfl) ?_
    refine lv_icmp_ne (tgt := 62) hx hb dX6_factor_56 (by decide) (fun c9 => ?_) (fun c9 => ?_)
    · replace h := md_f c9 h
      obtain ⟨x6_10, ex6_10⟩ : ∃ y : Int32, y = (x6 + (1 : Int32)) := ⟨_, rfl⟩
      replace h := md_le ex6_10 h
      refine lv_iinc (v := x6_10) (lv' := [(6, .int x6_10), (8, .int u8), (3, .int x3), (4, .long x4), (7, .int x7)]) hx hb dX6_factor_62 hl (k := 3) rfl (by rw [ex6_10]; rfl) (by decide) rfl (fun ls hl => ?_)
      refine lv_iload hx hb dX6_factor_65 (lv_at hl 1 rfl) ?_
      refine lv_iconst (v := 1) hx hb dX6_factor_67 (by decide) ?_
      obtain ⟨kJ84, ekJ84, h⟩ := md_jo h
      have KJ84 : ∀ (z0_84 : Int64), kJ84 z0_84 = some res → ∀ (ls : Array Slot), lv_has ls 9 [(3, .int x3), (6, .int x6_10), (7, .int x7)] → W p l e rmX6_factor s m args below meth c s.heap [] 0 0 Q (F0 m 84 ls [.long z0_84]) := by
        intro z0_84 h ls hl
        rw [ekJ84] at h
        refine lv_lstore (lv' := [(4, .long z0_84), (3, .int x3), (6, .int x6_10), (7, .int x7)]) hx hb dX6_factor_84 hl (by decide) rfl (fun ls hl => ?_)
        obtain ⟨x7_11, ex7_11⟩ : ∃ y : Int32, y = (x7 + (1 : Int32)) := ⟨_, rfl⟩
        replace h := md_le ex7_11 h
        refine lv_iinc (v := x7_11) (lv' := [(7, .int x7_11), (4, .long z0_84), (3, .int x3), (6, .int x6_10)]) hx hb dX6_factor_86 hl (k := 3) rfl (by rw [ex7_11]; rfl) (by decide) rfl (fun ls hl => ?_)
        refine lv_goto (tgt := 32) hx hb dX6_factor_89 (by decide) ?_
        exact ih z0_84 x6_10 x7_11 h ls (lv_sub hl [2, 1, 3, 0] rfl)
      clear ekJ84
      refine lv_icmp_le (tgt := 83) hx hb dX6_factor_68 (by decide) (fun c12 => ?_) (fun c12 => ?_)
      · replace h := md_t c12 h
        refine lv_lconst (v := 1) hx hb dX6_factor_83 (by decide) ?_
        exact KJ84 (1 : Int64) h ls (lv_sub hl [2, 0, 4] rfl)
      replace h := md_f c12 h
      refine lv_lload hx hb dX6_factor_71 (lv_at hl 3 rfl) ?_
      refine lv_iload hx hb dX6_factor_73 (lv_at hl 1 rfl) ?_
      refine lv_i2l hx hb dX6_factor_75 rfl ?_
      obtain ⟨hz13, h⟩ := md_g h
      refine lv_ldiv hx hb dX6_factor_76 hz13 ?_
      obtain ⟨u14, hu14, h⟩ := md_b h
      refine kS C (ctX1_strip l  hu14) gX6_factor_X1_strip rfl kdX1_strip ⟨rfl, rfl⟩ ⟨by decide, by decide⟩ kT_blind (fun _ _ _ => trivial) rfl hl [] rfl (Nat.le_of_ble_eq_true rfl) dX6_factor_77 ⟨by decide, by decide⟩ ?_
      refine lv_goto (tgt := 84) hx hb dX6_factor_80 (by decide) ?_
      exact KJ84 u14 h ls (lv_sub hl [2, 0, 4] rfl)
    replace h := md_t c9 h
    refine lv_iload hx hb dX6_factor_59 (lv_at hl 0 rfl) ?_
    exact hQ u8 61 ls h dX6_factor_61
def mX6_factor (p1 : Int64) (p2 : Int32) : Option Int32 := (Option.bind (mX1_isNumber p1) (fun u1 => (if u1 = 0 then (some (-2 : Int32)) else (Option.bind (mX4_isEven p1) (fun u3 => (if u3 = 0 then (some (-5 : Int32)) else (Option.bind (mX1_strip p1) (fun u5 => (mlX6_factor_32 p2 (fun (y6_92 : Int32) => (if p2 = (-1 : Int32) then (some y6_92) else (some (-6 : Int32)))) kN u5 (0 : Int32) (0 : Int32))))))))))
set_option maxHeartbeats 4000000 in
set_option maxRecDepth 100000 in
theorem bX6_factor {p : Program} {l : Launch} {e : Env} {s : State} {m : MethodId} {args : Array Value} {below : List Frame} {meth : Method} {c : Code} {Q : State → Prop} (C : kc p s m args meth c cX6_factor 9 RX6 yX6_factor.name wsX6_factor (some .int)) {D : va_G} {cI cT : ClassId} {xo : Nat} {aL : Nat × Nat} (p1 : Int64) (p2 : Int32) (hK : va_K D vwCl (kTy cI cT) s) (hLz : kLz aL (fun _ => False) s s.heap) (hP : va_P D vwCl [] s.heap) (res : Int32) (hQ : ∀ (v : Int32) (pc : Nat) (ls : Array Slot), some v = some res → decode cX6_factor pc = .ok (.ireturn, 1) → W p l e rmX6_factor s m args below meth c s.heap [] 0 0 Q (F0 m pc ls [.int v])) : mX6_factor p1 p2 = some res → ∀ (ls : Array Slot), lv_has ls 9 [(0, .ref xo), (1, .long p1), (3, .int p2)] → W p l e rmX6_factor s m args below meth c s.heap [] 0 0 Q (F0 m 0 ls []) := by
  intro h ls hl
  have C0 := C
  obtain ⟨hx, hb, hml, hown, hts, hr, hlk, hnm⟩ := C0
  rw [mX6_factor] at h
  refine lv_lload_n hx hb dX6_factor_0 rfl (lv_at hl 1 rfl) ?_
  obtain ⟨u1, hu1, h⟩ := md_b h
  refine kS C (ctX1_isNumber l  hu1) gX6_factor_X1_isNumber rfl kdX1_isNumber ⟨rfl, rfl⟩ ⟨by decide, by decide⟩ kT_blind (fun _ _ _ => trivial) rfl hl [] rfl (Nat.le_of_ble_eq_true rfl) dX6_factor_1 ⟨by decide, by decide⟩ ?_
  refine lv_if_ne (tgt := 10) hx hb dX6_factor_4 (by decide) (fun c2 => ?_) (fun c2 => ?_)
  · replace h := md_f c2 h
    refine lv_lload_n hx hb dX6_factor_10 rfl (lv_at hl 1 rfl) ?_
    obtain ⟨u3, hu3, h⟩ := md_b h
    refine kS C (ctX4_isEven l  hu3) gX6_factor_X4_isEven rfl kdX4_isEven ⟨rfl, rfl⟩ ⟨by decide, by decide⟩ kT_blind (fun _ _ _ => trivial) rfl hl [] rfl (Nat.le_of_ble_eq_true rfl) dX6_factor_11 ⟨by decide, by decide⟩ ?_
    refine lv_if_ne (tgt := 20) hx hb dX6_factor_14 (by decide) (fun c4 => ?_) (fun c4 => ?_)
    · replace h := md_f c4 h
      refine lv_lload_n hx hb dX6_factor_20 rfl (lv_at hl 1 rfl) ?_
      obtain ⟨u5, hu5, h⟩ := md_b h
      refine kS C (ctX1_strip l  hu5) gX6_factor_X1_strip rfl kdX1_strip ⟨rfl, rfl⟩ ⟨by decide, by decide⟩ kT_blind (fun _ _ _ => trivial) rfl hl [] rfl (Nat.le_of_ble_eq_true rfl) dX6_factor_21 ⟨by decide, by decide⟩ ?_
      refine lv_lstore (lv' := [(4, .long u5), (0, .ref xo), (1, .long p1), (3, .int p2)]) hx hb dX6_factor_24 hl (by decide) rfl (fun ls hl => ?_)
      refine lv_iconst (v := 0) hx hb dX6_factor_26 (by decide) ?_
      refine lv_istore (lv' := [(6, .int (0 : Int32)), (4, .long u5), (0, .ref xo), (1, .long p1), (3, .int p2)]) hx hb dX6_factor_27 hl (by decide) rfl (fun ls hl => ?_)
      refine lv_iconst (v := 0) hx hb dX6_factor_29 (by decide) ?_
      refine lv_istore (lv' := [(7, .int (0 : Int32)), (6, .int (0 : Int32)), (4, .long u5), (0, .ref xo), (1, .long p1), (3, .int p2)]) hx hb dX6_factor_30 hl (by decide) rfl (fun ls hl => ?_)
      refine lX6_factor_32 (xo := xo) C hK hLz p2 hP res hQ _ (fun y6_92 h ls hl => ?_) kN u5 (0 : Int32) (0 : Int32) h ls (lv_sub hl [5, 2, 1, 0] rfl)
      refine lv_iload_n hx hb dX6_factor_92 rfl (lv_at hl 0 rfl) ?_
      refine lv_iconst (v := -1) hx hb dX6_factor_93 (by decide) ?_
      refine lv_icmp_ne (tgt := 102) hx hb dX6_factor_94 (by decide) (fun c15 => ?_) (fun c15 => ?_)
      · replace h := md_f c15 h
        refine lv_bipush (v := -6) hx hb dX6_factor_102 (by decide) ?_
        exact hQ (-6 : Int32) 104 ls h dX6_factor_104
      replace h := md_t c15 h
      refine lv_iload hx hb dX6_factor_97 (lv_at hl 1 rfl) ?_
      refine lv_goto (tgt := 104) hx hb dX6_factor_99 (by decide) ?_
      exact hQ y6_92 104 ls h dX6_factor_104
    replace h := md_t c4 h
    refine lv_bipush (v := -5) hx hb dX6_factor_17 (by decide) ?_
    exact hQ (-5 : Int32) 19 ls h dX6_factor_19
  replace h := md_t c2 h
  refine lv_bipush (v := -2) hx hb dX6_factor_7 (by decide) ?_
  exact hQ (-2 : Int32) 9 ls h dX6_factor_9
set_option maxHeartbeats 4000000 in
theorem ctX6_factor (l : Launch) {D : va_G} {cI cT : ClassId} {xo : Nat} {aL : Nat × Nat} {p1 : Int64} {p2 : Int32} {res : Int32} (hm : mX6_factor p1 p2 = some res) : Met l yX6_factor wsX6_factor rmX6_factor (va_Pc [.ref xo, .long p1, .int p2] (kW D cI cT [] (some aL) (fun _ => False))) (kR (.int res)) 0 0 (fun _ => False) :=
  km (by decide) rfl (Nat.le_of_ble_eq_true rfl) (fun p e s m below meth c ls C hB hl => bX6_factor C p1 p2 hB.1 (hB.2.2 aL rfl) hB.2.1 res (fun v pc ls h hd => kr_i C h hd) hm ls hl)
theorem wm_X6_root_0 : Cond.constantLong RX6 48 (-1000000000000000002) ∈ wsX6_root := by decide +kernel
theorem wm_X6_root_1 : Cond.constantLong RX6 76 (167961600000000) ∈ wsX6_root := by decide +kernel
theorem wm_X6_root_2 : Cond.constantLong RX6 100 (3600) ∈ wsX6_root := by decide +kernel
theorem wm_X6_root_3 : Cond.constantLong RX6 78 (-1000000000000000004) ∈ wsX6_root := by decide +kernel
theorem kdvX6_root : yX6_root.cls = RX6 ∧ yX6_root.cls ≠ "java/lang/invoke/MethodHandle" ∧ yX6_root.cls ≠ "java/lang/invoke/VarHandle" ∧ (parseMethodDescriptor yX6_root.desc).map (fun d => d.parameters.length) = some 2 := by decide +kernel
abbrev rmX6_root : Room := { frames := 1, cells := 0, slots := 0, locals := 28 }
def mlX6_root_26 (x3 : Int32) (kE : Int64 → Option Int64) : Nat → Int64 → Int32 → Option Int64
  | 0, _, _ => none
  | n + 1, x4, x6 => (if x3 ≤ x6 then (kE x4) else (if x4 < (167961600000000 : Int64) then (md_let (x4 * (3600 : Int64)) (fun (x4_7 : Int64) => (md_let (x6 + (1 : Int32)) (fun (x6_8 : Int32) => (mlX6_root_26 x3 kE n x4_7 x6_8))))) else (some (-1000000000000000004 : Int64))))
set_option maxHeartbeats 4000000 in
set_option maxRecDepth 100000 in
theorem lX6_root_26 {p : Program} {l : Launch} {e : Env} {s : State} {m : MethodId} {args : Array Value} {below : List Frame} {meth : Method} {c : Code} {Q : State → Prop} (C : kc p s m args meth c cX6_root 7 RX6 yX6_root.name wsX6_root (some .long)) {xo : Nat} (x3 : Int32) (res : Int64) (hQ : ∀ (v : Int64) (pc : Nat) (ls : Array Slot), some v = some res → decode cX6_root pc = .ok (.lreturn, 1) → W p l e rmX6_root s m args below meth c s.heap [] 0 0 Q (F0 m pc ls [.long v])) (kE : Int64 → Option Int64) (hE : ∀ (y4 : Int64), kE y4 = some res → ∀ (ls : Array Slot), lv_has ls 7 [(4, .long y4)] → W p l e rmX6_root s m args below meth c s.heap [] 0 0 Q (F0 m 59 ls [])) : ∀ (n : Nat), ∀ (x4 : Int64) (x6 : Int32), mlX6_root_26 x3 kE n x4 x6 = some res → ∀ (ls : Array Slot), lv_has ls 7 [(3, .int x3), (4, .long x4), (6, .int x6)] → W p l e rmX6_root s m args below meth c s.heap [] 0 0 Q (F0 m 26 ls []) := by
  have C0 := C
  obtain ⟨hx, hb, hml, hown, hts, hr, hlk, hnm⟩ := C0
  intro n
  induction n with
  | zero => intro _ _ h; exact md_x h
  | succ n ih =>
    intro x4 x6 h ls hl
    rw [mlX6_root_26] at h
    refine lv_iload hx hb dX6_root_26 (lv_at hl 2 rfl) ?_
    refine lv_iload_n hx hb dX6_root_28 rfl (lv_at hl 0 rfl) ?_
    refine lv_icmp_ge (tgt := 59) hx hb dX6_root_29 (by decide) (fun c5 => ?_) (fun c5 => ?_)
    · replace h := md_t c5 h
      exact hE x4 h ls (lv_sub hl [1] rfl)
    replace h := md_f c5 h
    refine lv_lload hx hb dX6_root_32 (lv_at hl 1 rfl) ?_
    refine lv_ldc2 hx hb hown (hts _ wm_X6_root_1) dX6_root_34 ?_
    refine W.lcmp hx hb dX6_root_37 ?_
    refine lv_if_lt (tgt := 45) hx hb dX6_root_38 (by decide) (fun c6 => ?_) (fun c6 => ?_)
    · replace c6 := (lg_cmp_lt _ _).mp c6
      replace h := md_t c6 h
      refine lv_lload hx hb dX6_root_45 (lv_at hl 1 rfl) ?_
      refine lv_ldc2 hx hb hown (hts _ wm_X6_root_2) dX6_root_47 ?_
      refine lv_lmul hx hb dX6_root_50 ?_
      refine lv_topl (fun x4_7 ex4_7 => ?_)
      replace h := md_le ex4_7 h
      refine lv_lstore (lv' := [(4, .long x4_7), (3, .int x3), (6, .int x6)]) hx hb dX6_root_51 hl (by decide) rfl (fun ls hl => ?_)
      obtain ⟨x6_8, ex6_8⟩ : ∃ y : Int32, y = (x6 + (1 : Int32)) := ⟨_, rfl⟩
      replace h := md_le ex6_8 h
      refine lv_iinc (v := x6_8) (lv' := [(6, .int x6_8), (4, .long x4_7), (3, .int x3)]) hx hb dX6_root_53 hl (k := 2) rfl (by rw [ex6_8]; rfl) (by decide) rfl (fun ls hl => ?_)
      refine lv_goto (tgt := 26) hx hb dX6_root_56 (by decide) ?_
      exact ih x4_7 x6_8 h ls (lv_sub hl [2, 1, 0] rfl)
    replace c6 := fun q9 => c6 ((lg_cmp_lt _ _).mpr q9)
    replace h := md_f c6 h
    refine lv_ldc2 hx hb hown (hts _ wm_X6_root_3) dX6_root_41 ?_
    exact hQ (-1000000000000000004 : Int64) 44 ls h dX6_root_44
def mX6_root (p1 : Int64) (p2 : Int32) : Option Int64 := (Option.bind (mX1_isNumber p1) (fun u1 => (if u1 = 0 then (some (-1000000000000000002 : Int64)) else (if p2 < 0 then (some (-1000000000000000002 : Int64)) else (if p2 ≤ (3 : Int32) then (mlX6_root_26 p2 (fun (y4_59 : Int64) => (Option.bind (mX1_floorRoot y4_59) (fun u9 => (some u9)))) kN p1 (0 : Int32)) else (some (-1000000000000000002 : Int64)))))))
set_option maxHeartbeats 4000000 in
set_option maxRecDepth 100000 in
theorem bX6_root {p : Program} {l : Launch} {e : Env} {s : State} {m : MethodId} {args : Array Value} {below : List Frame} {meth : Method} {c : Code} {Q : State → Prop} (C : kc p s m args meth c cX6_root 7 RX6 yX6_root.name wsX6_root (some .long)) {xo : Nat} (p1 : Int64) (p2 : Int32) (res : Int64) (hQ : ∀ (v : Int64) (pc : Nat) (ls : Array Slot), some v = some res → decode cX6_root pc = .ok (.lreturn, 1) → W p l e rmX6_root s m args below meth c s.heap [] 0 0 Q (F0 m pc ls [.long v])) : mX6_root p1 p2 = some res → ∀ (ls : Array Slot), lv_has ls 7 [(0, .ref xo), (1, .long p1), (3, .int p2)] → W p l e rmX6_root s m args below meth c s.heap [] 0 0 Q (F0 m 0 ls []) := by
  intro h ls hl
  have C0 := C
  obtain ⟨hx, hb, hml, hown, hts, hr, hlk, hnm⟩ := C0
  rw [mX6_root] at h
  refine lv_lload_n hx hb dX6_root_0 rfl (lv_at hl 1 rfl) ?_
  obtain ⟨u1, hu1, h⟩ := md_b h
  refine kS C (ctX1_isNumber l  hu1) gX6_root_X1_isNumber rfl kdX1_isNumber ⟨rfl, rfl⟩ ⟨by decide, by decide⟩ kT_blind (fun _ _ _ => trivial) rfl hl [] rfl (Nat.le_of_ble_eq_true rfl) dX6_root_1 ⟨by decide, by decide⟩ ?_
  refine lv_if_eq (tgt := 16) hx hb dX6_root_4 (by decide) (fun c2 => ?_) (fun c2 => ?_)
  · replace h := md_t c2 h
    refine lv_ldc2 hx hb hown (hts _ wm_X6_root_0) dX6_root_16 ?_
    exact hQ (-1000000000000000002 : Int64) 19 ls h dX6_root_19
  replace h := md_f c2 h
  refine lv_iload_n hx hb dX6_root_7 rfl (lv_at hl 2 rfl) ?_
  refine lv_if_lt (tgt := 16) hx hb dX6_root_8 (by decide) (fun c3 => ?_) (fun c3 => ?_)
  · replace h := md_t c3 h
    refine lv_ldc2 hx hb hown (hts _ wm_X6_root_0) dX6_root_16 ?_
    exact hQ (-1000000000000000002 : Int64) 19 ls h dX6_root_19
  replace h := md_f c3 h
  refine lv_iload_n hx hb dX6_root_11 rfl (lv_at hl 2 rfl) ?_
  refine lv_iconst (v := 3) hx hb dX6_root_12 (by decide) ?_
  refine lv_icmp_le (tgt := 20) hx hb dX6_root_13 (by decide) (fun c4 => ?_) (fun c4 => ?_)
  · replace h := md_t c4 h
    refine lv_lload_n hx hb dX6_root_20 rfl (lv_at hl 1 rfl) ?_
    refine lv_lstore (lv' := [(4, .long p1), (0, .ref xo), (1, .long p1), (3, .int p2)]) hx hb dX6_root_21 hl (by decide) rfl (fun ls hl => ?_)
    refine lv_iconst (v := 0) hx hb dX6_root_23 (by decide) ?_
    refine lv_istore (lv' := [(6, .int (0 : Int32)), (4, .long p1), (0, .ref xo), (1, .long p1), (3, .int p2)]) hx hb dX6_root_24 hl (by decide) rfl (fun ls hl => ?_)
    refine lX6_root_26 (xo := xo) C p2 res hQ _ (fun y4_59 h ls hl => ?_) kN p1 (0 : Int32) h ls (lv_sub hl [4, 1, 0] rfl)
    refine lv_lload hx hb dX6_root_59 (lv_at hl 0 rfl) ?_
    obtain ⟨u9, hu9, h⟩ := md_b h
    refine kS C (ctX1_floorRoot l  hu9) gX6_root_X1_floorRoot rfl kdX1_floorRoot ⟨rfl, rfl⟩ ⟨by decide, by decide⟩ kT_blind (fun _ _ _ => trivial) rfl hl [] rfl (Nat.le_of_ble_eq_true rfl) dX6_root_61 ⟨by decide, by decide⟩ ?_
    exact hQ u9 64 ls h dX6_root_64
  replace h := md_f c4 h
  refine lv_ldc2 hx hb hown (hts _ wm_X6_root_0) dX6_root_16 ?_
  exact hQ (-1000000000000000002 : Int64) 19 ls h dX6_root_19
set_option maxHeartbeats 4000000 in
theorem ctX6_root (l : Launch) {xo : Nat} {p1 : Int64} {p2 : Int32} {res : Int64} (hm : mX6_root p1 p2 = some res) : Met l yX6_root wsX6_root rmX6_root (va_Pc [.ref xo, .long p1, .int p2] (fun _ => True)) (kR (.long res)) 0 0 (fun _ => False) :=
  km (by decide) rfl (Nat.le_of_ble_eq_true rfl) (fun p e s m below meth c ls C hB hl => bX6_root C p1 p2 res (fun v pc ls h hd => kr_l C h hd) hm ls hl)
theorem wm_X6_isInProblem_0 : Cond.constant RX6 252 (1000000) ∈ wsX6_isInProblem := by decide +kernel
theorem kdX6_isInProblem : yX6_isInProblem.cls ≠ "java/lang/invoke/MethodHandle" ∧ yX6_isInProblem.cls ≠ "java/lang/invoke/VarHandle" ∧ (parseMethodDescriptor yX6_isInProblem.desc).map (fun d => d.parameters.length) = some 1 := by decide +kernel
abbrev rmX6_isInProblem : Room := { frames := 0, cells := 0, slots := 0, locals := 0 }
def mX6_isInProblem (p1 : Int32) : Option Int32 := (if p1 < (1 : Int32) then (some (0 : Int32)) else (if (1000000 : Int32) < p1 then (some (0 : Int32)) else (some (1 : Int32))))
set_option maxHeartbeats 4000000 in
set_option maxRecDepth 100000 in
theorem bX6_isInProblem {p : Program} {l : Launch} {e : Env} {s : State} {m : MethodId} {args : Array Value} {below : List Frame} {meth : Method} {c : Code} {Q : State → Prop} (C : kc p s m args meth c cX6_isInProblem 1 RX6 yX6_isInProblem.name wsX6_isInProblem (some .boolean)) (p1 : Int32) (res : Int32) (hQ : ∀ (v : Int32) (pc : Nat) (ls : Array Slot), v = 0 ∨ v = 1 → some v = some res → decode cX6_isInProblem pc = .ok (.ireturn, 1) → W p l e rmX6_isInProblem s m args below meth c s.heap [] 0 0 Q (F0 m pc ls [.int v])) : mX6_isInProblem p1 = some res → ∀ (ls : Array Slot), lv_has ls 1 [(0, .int p1)] → W p l e rmX6_isInProblem s m args below meth c s.heap [] 0 0 Q (F0 m 0 ls []) := by
  intro h ls hl
  have C0 := C
  obtain ⟨hx, hb, hml, hown, hts, hr, hlk, hnm⟩ := C0
  rw [mX6_isInProblem] at h
  refine lv_iload_n hx hb dX6_isInProblem_0 rfl (lv_at hl 0 rfl) ?_
  refine lv_iconst (v := 1) hx hb dX6_isInProblem_1 (by decide) ?_
  refine lv_icmp_lt (tgt := 15) hx hb dX6_isInProblem_2 (by decide) (fun c1 => ?_) (fun c1 => ?_)
  · replace h := md_t c1 h
    refine lv_iconst (v := 0) hx hb dX6_isInProblem_15 (by decide) ?_
    exact hQ (0 : Int32) 16 ls (by decide) h dX6_isInProblem_16
  replace h := md_f c1 h
  refine lv_iload_n hx hb dX6_isInProblem_5 rfl (lv_at hl 0 rfl) ?_
  refine lv_ldc hx hb hown (hts _ wm_X6_isInProblem_0) dX6_isInProblem_6 ?_
  refine lv_icmp_gt (tgt := 15) hx hb dX6_isInProblem_8 (by decide) (fun c2 => ?_) (fun c2 => ?_)
  · replace h := md_t c2 h
    refine lv_iconst (v := 0) hx hb dX6_isInProblem_15 (by decide) ?_
    exact hQ (0 : Int32) 16 ls (by decide) h dX6_isInProblem_16
  replace h := md_f c2 h
  refine lv_iconst (v := 1) hx hb dX6_isInProblem_11 (by decide) ?_
  refine lv_goto (tgt := 16) hx hb dX6_isInProblem_12 (by decide) ?_
  exact hQ (1 : Int32) 16 ls (by decide) h dX6_isInProblem_16
set_option maxHeartbeats 4000000 in
theorem ctX6_isInProblem (l : Launch) {p1 : Int32} {res : Int32} (hm : mX6_isInProblem p1 = some res) : Met l yX6_isInProblem wsX6_isInProblem rmX6_isInProblem (va_Pc [.int p1] (fun _ => True)) (kR (.int res)) 0 0 (fun _ => False) :=
  km (by decide) rfl (Nat.le_of_ble_eq_true rfl) (fun p e s m below meth c ls C hB hl => bX6_isInProblem C p1 res (fun v pc ls hz h hd => kr_z C hz h hd) hm ls hl)
theorem wm_X6_onlyAnswer_0 : Cond.constantLong RX6 85 (-1000000000000000005) ∈ wsX6_onlyAnswer := by decide +kernel
theorem kdX6_onlyAnswer : yX6_onlyAnswer.cls ≠ "java/lang/invoke/MethodHandle" ∧ yX6_onlyAnswer.cls ≠ "java/lang/invoke/VarHandle" ∧ (parseMethodDescriptor yX6_onlyAnswer.desc).map (fun d => d.parameters.length) = some 2 := by decide +kernel
abbrev rmX6_onlyAnswer : Room := { frames := 0, cells := 0, slots := 0, locals := 0 }
def mX6_onlyAnswer (p1 : Int64) (p2 : Int32) : Option Int64 := (if (0 : Int64) < p1 then (if p2 = 0 then (some p1) else (some (0 : Int64))) else (some (-1000000000000000005 : Int64)))
set_option maxHeartbeats 4000000 in
set_option maxRecDepth 100000 in
theorem bX6_onlyAnswer {p : Program} {l : Launch} {e : Env} {s : State} {m : MethodId} {args : Array Value} {below : List Frame} {meth : Method} {c : Code} {Q : State → Prop} (C : kc p s m args meth c cX6_onlyAnswer 3 RX6 yX6_onlyAnswer.name wsX6_onlyAnswer (some .long)) (p1 : Int64) (p2 : Int32) (res : Int64) (hQ : ∀ (v : Int64) (pc : Nat) (ls : Array Slot), some v = some res → decode cX6_onlyAnswer pc = .ok (.lreturn, 1) → W p l e rmX6_onlyAnswer s m args below meth c s.heap [] 0 0 Q (F0 m pc ls [.long v])) : mX6_onlyAnswer p1 p2 = some res → ∀ (ls : Array Slot), lv_has ls 3 [(0, .long p1), (2, .int p2)] → W p l e rmX6_onlyAnswer s m args below meth c s.heap [] 0 0 Q (F0 m 0 ls []) := by
  intro h ls hl
  have C0 := C
  obtain ⟨hx, hb, hml, hown, hts, hr, hlk, hnm⟩ := C0
  rw [mX6_onlyAnswer] at h
  refine lv_lload_n hx hb dX6_onlyAnswer_0 rfl (lv_at hl 0 rfl) ?_
  refine lv_lconst (v := 0) hx hb dX6_onlyAnswer_1 (by decide) ?_
  refine W.lcmp hx hb dX6_onlyAnswer_2 ?_
  refine lv_if_gt (tgt := 10) hx hb dX6_onlyAnswer_3 (by decide) (fun c1 => ?_) (fun c1 => ?_)
  · replace c1 := (lg_cmp_gt _ _).mp c1
    replace h := md_t c1 h
    refine lv_iload_n hx hb dX6_onlyAnswer_10 rfl (lv_at hl 1 rfl) ?_
    refine lv_if_ne (tgt := 18) hx hb dX6_onlyAnswer_11 (by decide) (fun c2 => ?_) (fun c2 => ?_)
    · replace h := md_f c2 h
      refine lv_lconst (v := 0) hx hb dX6_onlyAnswer_18 (by decide) ?_
      exact hQ (0 : Int64) 19 ls h dX6_onlyAnswer_19
    replace h := md_t c2 h
    refine lv_lload_n hx hb dX6_onlyAnswer_14 rfl (lv_at hl 0 rfl) ?_
    refine lv_goto (tgt := 19) hx hb dX6_onlyAnswer_15 (by decide) ?_
    exact hQ p1 19 ls h dX6_onlyAnswer_19
  replace c1 := fun q9 => c1 ((lg_cmp_gt _ _).mpr q9)
  replace h := md_f c1 h
  refine lv_ldc2 hx hb hown (hts _ wm_X6_onlyAnswer_0) dX6_onlyAnswer_6 ?_
  exact hQ (-1000000000000000005 : Int64) 9 ls h dX6_onlyAnswer_9
set_option maxHeartbeats 4000000 in
theorem ctX6_onlyAnswer (l : Launch) {p1 : Int64} {p2 : Int32} {res : Int64} (hm : mX6_onlyAnswer p1 p2 = some res) : Met l yX6_onlyAnswer wsX6_onlyAnswer rmX6_onlyAnswer (va_Pc [.long p1, .int p2] (fun _ => True)) (kR (.long res)) 0 0 (fun _ => False) :=
  km (by decide) rfl (Nat.le_of_ble_eq_true rfl) (fun p e s m below meth c ls C hB hl => bX6_onlyAnswer C p1 p2 res (fun v pc ls h hd => kr_l C h hd) hm ls hl)
theorem wm_X6_sideOf_0 : Cond.constantLong RX6 85 (-1000000000000000005) ∈ wsX6_sideOf := by decide +kernel
theorem wm_X6_sideOf_1 : Cond.constantLong RX6 253 (2) ∈ wsX6_sideOf := by decide +kernel
theorem kdX6_sideOf : yX6_sideOf.cls ≠ "java/lang/invoke/MethodHandle" ∧ yX6_sideOf.cls ≠ "java/lang/invoke/VarHandle" ∧ (parseMethodDescriptor yX6_sideOf.desc).map (fun d => d.parameters.length) = some 3 := by decide +kernel
abbrev rmX6_sideOf : Room := { frames := 0, cells := 0, slots := 0, locals := 0 }
def mX6_sideOf (p1 : Int64) (p2 : Int64) (p3 : Int32) : Option Int64 := (if p1 < (0 : Int64) then (some (-1000000000000000005 : Int64)) else (if p2 ≤ p1 then (some (-1000000000000000005 : Int64)) else (if ((p2 - p1) - (p2 - p1) / (2 : Int64) * (2 : Int64)) = (0 : Int64) then (if p3 = 0 then (some ((p2 + p1) / (2 : Int64))) else (some ((p2 - p1) / (2 : Int64)))) else (some (-1000000000000000005 : Int64)))))
set_option maxHeartbeats 4000000 in
set_option maxRecDepth 100000 in
theorem bX6_sideOf {p : Program} {l : Launch} {e : Env} {s : State} {m : MethodId} {args : Array Value} {below : List Frame} {meth : Method} {c : Code} {Q : State → Prop} (C : kc p s m args meth c cX6_sideOf 5 RX6 yX6_sideOf.name wsX6_sideOf (some .long)) (p1 : Int64) (p2 : Int64) (p3 : Int32) (res : Int64) (hQ : ∀ (v : Int64) (pc : Nat) (ls : Array Slot), some v = some res → decode cX6_sideOf pc = .ok (.lreturn, 1) → W p l e rmX6_sideOf s m args below meth c s.heap [] 0 0 Q (F0 m pc ls [.long v])) : mX6_sideOf p1 p2 p3 = some res → ∀ (ls : Array Slot), lv_has ls 5 [(0, .long p1), (2, .long p2), (4, .int p3)] → W p l e rmX6_sideOf s m args below meth c s.heap [] 0 0 Q (F0 m 0 ls []) := by
  intro h ls hl
  have C0 := C
  obtain ⟨hx, hb, hml, hown, hts, hr, hlk, hnm⟩ := C0
  rw [mX6_sideOf] at h
  refine lv_lload_n hx hb dX6_sideOf_0 rfl (lv_at hl 0 rfl) ?_
  refine lv_lconst (v := 0) hx hb dX6_sideOf_1 (by decide) ?_
  refine W.lcmp hx hb dX6_sideOf_2 ?_
  refine lv_if_lt (tgt := 24) hx hb dX6_sideOf_3 (by decide) (fun c1 => ?_) (fun c1 => ?_)
  · replace c1 := (lg_cmp_lt _ _).mp c1
    replace h := md_t c1 h
    refine lv_ldc2 hx hb hown (hts _ wm_X6_sideOf_0) dX6_sideOf_24 ?_
    exact hQ (-1000000000000000005 : Int64) 27 ls h dX6_sideOf_27
  replace c1 := fun q9 => c1 ((lg_cmp_lt _ _).mpr q9)
  replace h := md_f c1 h
  refine lv_lload_n hx hb dX6_sideOf_6 rfl (lv_at hl 1 rfl) ?_
  refine lv_lload_n hx hb dX6_sideOf_7 rfl (lv_at hl 0 rfl) ?_
  refine W.lcmp hx hb dX6_sideOf_8 ?_
  refine lv_if_le (tgt := 24) hx hb dX6_sideOf_9 (by decide) (fun c2 => ?_) (fun c2 => ?_)
  · replace c2 := (lg_cmp_le _ _).mp c2
    replace h := md_t c2 h
    refine lv_ldc2 hx hb hown (hts _ wm_X6_sideOf_0) dX6_sideOf_24 ?_
    exact hQ (-1000000000000000005 : Int64) 27 ls h dX6_sideOf_27
  replace c2 := fun q9 => c2 ((lg_cmp_le _ _).mpr q9)
  replace h := md_f c2 h
  refine lv_lload_n hx hb dX6_sideOf_12 rfl (lv_at hl 1 rfl) ?_
  refine lv_lload_n hx hb dX6_sideOf_13 rfl (lv_at hl 0 rfl) ?_
  refine lv_lsub hx hb dX6_sideOf_14 ?_
  refine lv_ldc2 hx hb hown (hts _ wm_X6_sideOf_1) dX6_sideOf_15 ?_
  refine lv_lrem hx hb dX6_sideOf_18 (by decide) ?_
  refine lv_lconst (v := 0) hx hb dX6_sideOf_19 (by decide) ?_
  refine W.lcmp hx hb dX6_sideOf_20 ?_
  refine lv_if_eq (tgt := 28) hx hb dX6_sideOf_21 (by decide) (fun c3 => ?_) (fun c3 => ?_)
  · replace c3 := (lg_cmp_eq _ _).mp c3
    replace h := md_t c3 h
    refine lv_iload hx hb dX6_sideOf_28 (lv_at hl 2 rfl) ?_
    refine lv_if_ne (tgt := 43) hx hb dX6_sideOf_30 (by decide) (fun c4 => ?_) (fun c4 => ?_)
    · replace h := md_f c4 h
      refine lv_lload_n hx hb dX6_sideOf_43 rfl (lv_at hl 1 rfl) ?_
      refine lv_lload_n hx hb dX6_sideOf_44 rfl (lv_at hl 0 rfl) ?_
      refine lv_lsub hx hb dX6_sideOf_45 ?_
      refine lv_ldc2 hx hb hown (hts _ wm_X6_sideOf_1) dX6_sideOf_46 ?_
      refine lv_ldiv hx hb dX6_sideOf_49 (by decide) ?_
      exact hQ ((p2 - p1) / (2 : Int64)) 50 ls h dX6_sideOf_50
    replace h := md_t c4 h
    refine lv_lload_n hx hb dX6_sideOf_33 rfl (lv_at hl 1 rfl) ?_
    refine lv_lload_n hx hb dX6_sideOf_34 rfl (lv_at hl 0 rfl) ?_
    refine lv_ladd hx hb dX6_sideOf_35 ?_
    refine lv_ldc2 hx hb hown (hts _ wm_X6_sideOf_1) dX6_sideOf_36 ?_
    refine lv_ldiv hx hb dX6_sideOf_39 (by decide) ?_
    refine lv_goto (tgt := 50) hx hb dX6_sideOf_40 (by decide) ?_
    exact hQ ((p2 + p1) / (2 : Int64)) 50 ls h dX6_sideOf_50
  replace c3 := fun q9 => c3 ((lg_cmp_eq _ _).mpr q9)
  replace h := md_f c3 h
  refine lv_ldc2 hx hb hown (hts _ wm_X6_sideOf_0) dX6_sideOf_24 ?_
  exact hQ (-1000000000000000005 : Int64) 27 ls h dX6_sideOf_27
set_option maxHeartbeats 4000000 in
theorem ctX6_sideOf (l : Launch) {p1 : Int64} {p2 : Int64} {p3 : Int32} {res : Int64} (hm : mX6_sideOf p1 p2 p3 = some res) : Met l yX6_sideOf wsX6_sideOf rmX6_sideOf (va_Pc [.long p1, .long p2, .int p3] (fun _ => True)) (kR (.long res)) 0 0 (fun _ => False) :=
  km (by decide) rfl (Nat.le_of_ble_eq_true rfl) (fun p e s m below meth c ls C hB hl => bX6_sideOf C p1 p2 p3 res (fun v pc ls h hd => kr_l C h hd) hm ls hl)
theorem wm_X6_wholeRoot_0 : Cond.constantLong RX6 140 (-1) ∈ wsX6_wholeRoot := by decide +kernel
theorem kdX6_wholeRoot : yX6_wholeRoot.cls ≠ "java/lang/invoke/MethodHandle" ∧ yX6_wholeRoot.cls ≠ "java/lang/invoke/VarHandle" ∧ (parseMethodDescriptor yX6_wholeRoot.desc).map (fun d => d.parameters.length) = some 1 := by decide +kernel
abbrev rmX6_wholeRoot : Room := { frames := 1, cells := 0, slots := 0, locals := 28 }
def mX6_wholeRoot (p1 : Int64) : Option Int64 := (if (0 : Int64) ≤ p1 then (Option.bind (mX1_floorRoot p1) (fun u2 => (if (u2 * u2) = p1 then (some u2) else (some (-1 : Int64))))) else (some (-1 : Int64)))
set_option maxHeartbeats 4000000 in
set_option maxRecDepth 100000 in
theorem bX6_wholeRoot {p : Program} {l : Launch} {e : Env} {s : State} {m : MethodId} {args : Array Value} {below : List Frame} {meth : Method} {c : Code} {Q : State → Prop} (C : kc p s m args meth c cX6_wholeRoot 4 RX6 yX6_wholeRoot.name wsX6_wholeRoot (some .long)) (p1 : Int64) (res : Int64) (hQ : ∀ (v : Int64) (pc : Nat) (ls : Array Slot), some v = some res → decode cX6_wholeRoot pc = .ok (.lreturn, 1) → W p l e rmX6_wholeRoot s m args below meth c s.heap [] 0 0 Q (F0 m pc ls [.long v])) : mX6_wholeRoot p1 = some res → ∀ (ls : Array Slot), lv_has ls 4 [(0, .long p1)] → W p l e rmX6_wholeRoot s m args below meth c s.heap [] 0 0 Q (F0 m 0 ls []) := by
  intro h ls hl
  have C0 := C
  obtain ⟨hx, hb, hml, hown, hts, hr, hlk, hnm⟩ := C0
  rw [mX6_wholeRoot] at h
  refine lv_lload_n hx hb dX6_wholeRoot_0 rfl (lv_at hl 0 rfl) ?_
  refine lv_lconst (v := 0) hx hb dX6_wholeRoot_1 (by decide) ?_
  refine W.lcmp hx hb dX6_wholeRoot_2 ?_
  refine lv_if_ge (tgt := 10) hx hb dX6_wholeRoot_3 (by decide) (fun c1 => ?_) (fun c1 => ?_)
  · replace c1 := (lg_cmp_ge _ _).mp c1
    replace h := md_t c1 h
    refine lv_lload_n hx hb dX6_wholeRoot_10 rfl (lv_at hl 0 rfl) ?_
    obtain ⟨u2, hu2, h⟩ := md_b h
    refine kS C (ctX1_floorRoot l  hu2) gX6_wholeRoot_X1_floorRoot rfl kdX1_floorRoot ⟨rfl, rfl⟩ ⟨by decide, by decide⟩ kT_blind (fun _ _ _ => trivial) rfl hl [] rfl (Nat.le_of_ble_eq_true rfl) dX6_wholeRoot_11 ⟨by decide, by decide⟩ ?_
    refine lv_lstore_n (lv' := [(2, .long u2), (0, .long p1)]) hx hb dX6_wholeRoot_14 rfl hl (by decide) rfl (fun ls hl => ?_)
    refine lv_lload_n hx hb dX6_wholeRoot_15 rfl (lv_at hl 0 rfl) ?_
    refine lv_lload_n hx hb dX6_wholeRoot_16 rfl (lv_at hl 0 rfl) ?_
    refine lv_lmul hx hb dX6_wholeRoot_17 ?_
    refine lv_lload_n hx hb dX6_wholeRoot_18 rfl (lv_at hl 1 rfl) ?_
    refine W.lcmp hx hb dX6_wholeRoot_19 ?_
    refine lv_if_ne (tgt := 27) hx hb dX6_wholeRoot_20 (by decide) (fun c3 => ?_) (fun c3 => ?_)
    · replace c3 := fun q9 => c3 ((lg_cmp_eq _ _).mpr q9)
      replace h := md_f c3 h
      refine lv_ldc2 hx hb hown (hts _ wm_X6_wholeRoot_0) dX6_wholeRoot_27 ?_
      exact hQ (-1 : Int64) 30 ls h dX6_wholeRoot_30
    replace c3 := (lg_cmp_eq _ _).mp c3
    replace h := md_t c3 h
    refine lv_lload_n hx hb dX6_wholeRoot_23 rfl (lv_at hl 0 rfl) ?_
    refine lv_goto (tgt := 30) hx hb dX6_wholeRoot_24 (by decide) ?_
    exact hQ u2 30 ls h dX6_wholeRoot_30
  replace c1 := fun q9 => c1 ((lg_cmp_ge _ _).mpr q9)
  replace h := md_f c1 h
  refine lv_ldc2 hx hb hown (hts _ wm_X6_wholeRoot_0) dX6_wholeRoot_6 ?_
  exact hQ (-1 : Int64) 9 ls h dX6_wholeRoot_9
set_option maxHeartbeats 4000000 in
theorem ctX6_wholeRoot (l : Launch) {p1 : Int64} {res : Int64} (hm : mX6_wholeRoot p1 = some res) : Met l yX6_wholeRoot wsX6_wholeRoot rmX6_wholeRoot (va_Pc [.long p1] (fun _ => True)) (kR (.long res)) 0 0 (fun _ => False) :=
  km (by decide) rfl (Nat.le_of_ble_eq_true rfl) (fun p e s m below meth c ls C hB hl => bX6_wholeRoot C p1 res (fun v pc ls h hd => kr_l C h hd) hm ls hl)
theorem wm_X6_share_0 : Cond.constantLong RX6 76 (167961600000000) ∈ wsX6_share := by decide +kernel
theorem wm_X6_share_1 : Cond.constantLong RX6 255 (167961599999999) ∈ wsX6_share := by decide +kernel
theorem kdX6_share : yX6_share.cls ≠ "java/lang/invoke/MethodHandle" ∧ yX6_share.cls ≠ "java/lang/invoke/VarHandle" ∧ (parseMethodDescriptor yX6_share.desc).map (fun d => d.parameters.length) = some 2 := by decide +kernel
abbrev rmX6_share : Room := { frames := 3, cells := 0, slots := 0, locals := 68 }
def mX6_share (p1 : Int64) (p2 : Int64) : Option Int64 := (Option.bind (mX4_isEven p2) (fun u1 => (if u1 = 0 then (some (0 : Int64)) else (Option.bind (mX4_turnOver p2) (fun u3 => (Option.bind (mX1_strip p1) (fun u4 => (if (167961600000000 : Int64) ≤ u3 then (some (0 : Int64)) else (if u4 < (1 : Int64) then (some (0 : Int64)) else (if u4 = 0 then none else (if u3 ≤ ((167961599999999 : Int64) / u4) then (Option.bind (mX1_strip (u3 * u4)) (fun u9 => (some u9))) else (some (0 : Int64)))))))))))))
set_option maxHeartbeats 4000000 in
set_option maxRecDepth 100000 in
theorem bX6_share {p : Program} {l : Launch} {e : Env} {s : State} {m : MethodId} {args : Array Value} {below : List Frame} {meth : Method} {c : Code} {Q : State → Prop} (C : kc p s m args meth c cX6_share 8 RX6 yX6_share.name wsX6_share (some .long)) (p1 : Int64) (p2 : Int64) (res : Int64) (hQ : ∀ (v : Int64) (pc : Nat) (ls : Array Slot), some v = some res → decode cX6_share pc = .ok (.lreturn, 1) → W p l e rmX6_share s m args below meth c s.heap [] 0 0 Q (F0 m pc ls [.long v])) : mX6_share p1 p2 = some res → ∀ (ls : Array Slot), lv_has ls 8 [(0, .long p1), (2, .long p2)] → W p l e rmX6_share s m args below meth c s.heap [] 0 0 Q (F0 m 0 ls []) := by
  intro h ls hl
  have C0 := C
  obtain ⟨hx, hb, hml, hown, hts, hr, hlk, hnm⟩ := C0
  rw [mX6_share] at h
  refine lv_lload_n hx hb dX6_share_0 rfl (lv_at hl 1 rfl) ?_
  obtain ⟨u1, hu1, h⟩ := md_b h
  refine kS C (ctX4_isEven l  hu1) gX6_share_X4_isEven rfl kdX4_isEven ⟨rfl, rfl⟩ ⟨by decide, by decide⟩ kT_blind (fun _ _ _ => trivial) rfl hl [] rfl (Nat.le_of_ble_eq_true rfl) dX6_share_1 ⟨by decide, by decide⟩ ?_
  refine lv_if_ne (tgt := 9) hx hb dX6_share_4 (by decide) (fun c2 => ?_) (fun c2 => ?_)
  · replace h := md_f c2 h
    refine lv_lload_n hx hb dX6_share_9 rfl (lv_at hl 1 rfl) ?_
    obtain ⟨u3, hu3, h⟩ := md_b h
    refine kS C (ctX4_turnOver l  hu3) gX6_share_X4_turnOver rfl kdX4_turnOver ⟨rfl, rfl⟩ ⟨by decide, by decide⟩ kT_blind (fun _ _ _ => trivial) rfl hl [] rfl (Nat.le_of_ble_eq_true rfl) dX6_share_10 ⟨by decide, by decide⟩ ?_
    refine lv_lstore (lv' := [(4, .long u3), (0, .long p1), (2, .long p2)]) hx hb dX6_share_13 hl (by decide) rfl (fun ls hl => ?_)
    refine lv_lload_n hx hb dX6_share_15 rfl (lv_at hl 1 rfl) ?_
    obtain ⟨u4, hu4, h⟩ := md_b h
    refine kS C (ctX1_strip l  hu4) gX6_share_X1_strip rfl kdX1_strip ⟨rfl, rfl⟩ ⟨by decide, by decide⟩ kT_blind (fun _ _ _ => trivial) rfl hl [] rfl (Nat.le_of_ble_eq_true rfl) dX6_share_16 ⟨by decide, by decide⟩ ?_
    refine lv_lstore (lv' := [(6, .long u4), (4, .long u3), (0, .long p1), (2, .long p2)]) hx hb dX6_share_19 hl (by decide) rfl (fun ls hl => ?_)
    refine lv_lload hx hb dX6_share_21 (lv_at hl 1 rfl) ?_
    refine lv_ldc2 hx hb hown (hts _ wm_X6_share_0) dX6_share_23 ?_
    refine W.lcmp hx hb dX6_share_26 ?_
    refine lv_if_ge (tgt := 49) hx hb dX6_share_27 (by decide) (fun c5 => ?_) (fun c5 => ?_)
    · replace c5 := (lg_cmp_ge _ _).mp c5
      replace h := md_t c5 h
      refine lv_lconst (v := 0) hx hb dX6_share_49 (by decide) ?_
      exact hQ (0 : Int64) 50 ls h dX6_share_50
    replace c5 := fun q9 => c5 ((lg_cmp_ge _ _).mpr q9)
    replace h := md_f c5 h
    refine lv_lload hx hb dX6_share_30 (lv_at hl 0 rfl) ?_
    refine lv_lconst (v := 1) hx hb dX6_share_32 (by decide) ?_
    refine W.lcmp hx hb dX6_share_33 ?_
    refine lv_if_lt (tgt := 49) hx hb dX6_share_34 (by decide) (fun c6 => ?_) (fun c6 => ?_)
    · replace c6 := (lg_cmp_lt _ _).mp c6
      replace h := md_t c6 h
      refine lv_lconst (v := 0) hx hb dX6_share_49 (by decide) ?_
      exact hQ (0 : Int64) 50 ls h dX6_share_50
    replace c6 := fun q9 => c6 ((lg_cmp_lt _ _).mpr q9)
    replace h := md_f c6 h
    refine lv_lload hx hb dX6_share_37 (lv_at hl 1 rfl) ?_
    refine lv_ldc2 hx hb hown (hts _ wm_X6_share_1) dX6_share_39 ?_
    refine lv_lload hx hb dX6_share_42 (lv_at hl 0 rfl) ?_
    obtain ⟨hz7, h⟩ := md_g h
    refine lv_ldiv hx hb dX6_share_44 hz7 ?_
    refine W.lcmp hx hb dX6_share_45 ?_
    refine lv_if_le (tgt := 51) hx hb dX6_share_46 (by decide) (fun c8 => ?_) (fun c8 => ?_)
    · replace c8 := (lg_cmp_le _ _).mp c8
      replace h := md_t c8 h
      refine lv_lload hx hb dX6_share_51 (lv_at hl 1 rfl) ?_
      refine lv_lload hx hb dX6_share_53 (lv_at hl 0 rfl) ?_
      refine lv_lmul hx hb dX6_share_55 ?_
      obtain ⟨u9, hu9, h⟩ := md_b h
      refine kS C (ctX1_strip l  hu9) gX6_share_X1_strip rfl kdX1_strip ⟨rfl, rfl⟩ ⟨by decide, by decide⟩ kT_blind (fun _ _ _ => trivial) rfl hl [] rfl (Nat.le_of_ble_eq_true rfl) dX6_share_56 ⟨by decide, by decide⟩ ?_
      exact hQ u9 59 ls h dX6_share_59
    replace c8 := fun q9 => c8 ((lg_cmp_le _ _).mpr q9)
    replace h := md_f c8 h
    refine lv_lconst (v := 0) hx hb dX6_share_49 (by decide) ?_
    exact hQ (0 : Int64) 50 ls h dX6_share_50
  replace h := md_t c2 h
  refine lv_lconst (v := 0) hx hb dX6_share_7 (by decide) ?_
  exact hQ (0 : Int64) 8 ls h dX6_share_8
set_option maxHeartbeats 4000000 in
theorem ctX6_share (l : Launch) {p1 : Int64} {p2 : Int64} {res : Int64} (hm : mX6_share p1 p2 = some res) : Met l yX6_share wsX6_share rmX6_share (va_Pc [.long p1, .long p2] (fun _ => True)) (kR (.long res)) 0 0 (fun _ => False) :=
  km (by decide) rfl (Nat.le_of_ble_eq_true rfl) (fun p e s m below meth c ls C hB hl => bX6_share C p1 p2 res (fun v pc ls h hd => kr_l C h hd) hm ls hl)
theorem wm_X6_problem_0 : Cond.constantLong RX6 48 (-1000000000000000002) ∈ wsX6_problem := by decide +kernel
theorem wm_X6_problem_1 : Cond.constantLong RX6 231 (4) ∈ wsX6_problem := by decide +kernel
theorem kdvX6_problem : yX6_problem.cls = RX6 ∧ yX6_problem.cls ≠ "java/lang/invoke/MethodHandle" ∧ yX6_problem.cls ≠ "java/lang/invoke/VarHandle" ∧ (parseMethodDescriptor yX6_problem.desc).map (fun d => d.parameters.length) = some 4 := by decide +kernel
abbrev rmX6_problem : Room := { frames := 4, cells := 0, slots := 0, locals := 95 }
def mX6_problem (p1 : Int32) (p2 : Int32) (p3 : Int32) (p4 : Int32) : Option Int64 := (if p1 < 0 then (some (-1000000000000000002 : Int64)) else (if (5 : Int32) < p1 then (some (-1000000000000000002 : Int64)) else (Option.bind (mX6_isInProblem p2) (fun u3 => (if u3 = 0 then (some (-1000000000000000002 : Int64)) else (Option.bind (mX6_isInProblem p3) (fun u5 => (if u5 = 0 then (some (-1000000000000000002 : Int64)) else (if p4 < 0 then (some (-1000000000000000002 : Int64)) else (if p4 ≤ (1 : Int32) then (if p1 = (1 : Int32) then (Option.bind (mX6_share (Int32.toInt64 p2) (Int32.toInt64 p3)) (fun u10 => (Option.bind (mX6_onlyAnswer u10 p4) (fun u11 => (some u11))))) else (if p1 = (2 : Int32) then (Option.bind (mX6_wholeRoot (Int32.toInt64 p2)) (fun u13 => (Option.bind (mX6_onlyAnswer u13 p4) (fun u14 => (some u14))))) else (if p1 = (3 : Int32) then (Option.bind (mX6_wholeRoot (((Int32.toInt64 p2) * (Int32.toInt64 p2)) - ((4 : Int64) * (Int32.toInt64 p3)))) (fun u16 => (Option.bind (mX6_sideOf u16 (Int32.toInt64 p2) p4) (fun u17 => (some u17))))) else (if p1 = (4 : Int32) then (Option.bind (mX6_wholeRoot (((Int32.toInt64 p2) * (Int32.toInt64 p2)) + ((4 : Int64) * (Int32.toInt64 p3)))) (fun u19 => (Option.bind (mX6_sideOf (Int32.toInt64 p2) u19 p4) (fun u20 => (some u20))))) else (Option.bind (mX6_onlyAnswer ((Int32.toInt64 p2) * (Int32.toInt64 p3)) p4) (fun u21 => (some u21))))))) else (some (-1000000000000000002 : Int64))))))))))))
set_option maxHeartbeats 4000000 in
set_option maxRecDepth 100000 in
theorem bX6_problem {p : Program} {l : Launch} {e : Env} {s : State} {m : MethodId} {args : Array Value} {below : List Frame} {meth : Method} {c : Code} {Q : State → Prop} (C : kc p s m args meth c cX6_problem 5 RX6 yX6_problem.name wsX6_problem (some .long)) {xo : Nat} (p1 : Int32) (p2 : Int32) (p3 : Int32) (p4 : Int32) (res : Int64) (hQ : ∀ (v : Int64) (pc : Nat) (ls : Array Slot), some v = some res → decode cX6_problem pc = .ok (.lreturn, 1) → W p l e rmX6_problem s m args below meth c s.heap [] 0 0 Q (F0 m pc ls [.long v])) : mX6_problem p1 p2 p3 p4 = some res → ∀ (ls : Array Slot), lv_has ls 5 [(0, .ref xo), (1, .int p1), (2, .int p2), (3, .int p3), (4, .int p4)] → W p l e rmX6_problem s m args below meth c s.heap [] 0 0 Q (F0 m 0 ls []) := by
  intro h ls hl
  have C0 := C
  obtain ⟨hx, hb, hml, hown, hts, hr, hlk, hnm⟩ := C0
  rw [mX6_problem] at h
  refine lv_iload_n hx hb dX6_problem_0 rfl (lv_at hl 1 rfl) ?_
  refine lv_if_lt (tgt := 34) hx hb dX6_problem_1 (by decide) (fun c1 => ?_) (fun c1 => ?_)
  · replace h := md_t c1 h
    refine lv_ldc2 hx hb hown (hts _ wm_X6_problem_0) dX6_problem_34 ?_
    exact hQ (-1000000000000000002 : Int64) 37 ls h dX6_problem_37
  replace h := md_f c1 h
  refine lv_iload_n hx hb dX6_problem_4 rfl (lv_at hl 1 rfl) ?_
  refine lv_iconst (v := 5) hx hb dX6_problem_5 (by decide) ?_
  refine lv_icmp_gt (tgt := 34) hx hb dX6_problem_6 (by decide) (fun c2 => ?_) (fun c2 => ?_)
  · replace h := md_t c2 h
    refine lv_ldc2 hx hb hown (hts _ wm_X6_problem_0) dX6_problem_34 ?_
    exact hQ (-1000000000000000002 : Int64) 37 ls h dX6_problem_37
  replace h := md_f c2 h
  refine lv_iload_n hx hb dX6_problem_9 rfl (lv_at hl 2 rfl) ?_
  obtain ⟨u3, hu3, h⟩ := md_b h
  refine kS C (ctX6_isInProblem l  hu3) gX6_problem_X6_isInProblem rfl kdX6_isInProblem ⟨rfl, rfl⟩ ⟨by decide, by decide⟩ kT_blind (fun _ _ _ => trivial) rfl hl [] rfl (Nat.le_of_ble_eq_true rfl) dX6_problem_10 ⟨by decide, by decide⟩ ?_
  refine lv_if_eq (tgt := 34) hx hb dX6_problem_13 (by decide) (fun c4 => ?_) (fun c4 => ?_)
  · replace h := md_t c4 h
    refine lv_ldc2 hx hb hown (hts _ wm_X6_problem_0) dX6_problem_34 ?_
    exact hQ (-1000000000000000002 : Int64) 37 ls h dX6_problem_37
  replace h := md_f c4 h
  refine lv_iload_n hx hb dX6_problem_16 rfl (lv_at hl 3 rfl) ?_
  obtain ⟨u5, hu5, h⟩ := md_b h
  refine kS C (ctX6_isInProblem l  hu5) gX6_problem_X6_isInProblem rfl kdX6_isInProblem ⟨rfl, rfl⟩ ⟨by decide, by decide⟩ kT_blind (fun _ _ _ => trivial) rfl hl [] rfl (Nat.le_of_ble_eq_true rfl) dX6_problem_17 ⟨by decide, by decide⟩ ?_
  refine lv_if_eq (tgt := 34) hx hb dX6_problem_20 (by decide) (fun c6 => ?_) (fun c6 => ?_)
  · replace h := md_t c6 h
    refine lv_ldc2 hx hb hown (hts _ wm_X6_problem_0) dX6_problem_34 ?_
    exact hQ (-1000000000000000002 : Int64) 37 ls h dX6_problem_37
  replace h := md_f c6 h
  refine lv_iload hx hb dX6_problem_23 (lv_at hl 4 rfl) ?_
  refine lv_if_lt (tgt := 34) hx hb dX6_problem_25 (by decide) (fun c7 => ?_) (fun c7 => ?_)
  · replace h := md_t c7 h
    refine lv_ldc2 hx hb hown (hts _ wm_X6_problem_0) dX6_problem_34 ?_
    exact hQ (-1000000000000000002 : Int64) 37 ls h dX6_problem_37
  replace h := md_f c7 h
  refine lv_iload hx hb dX6_problem_28 (lv_at hl 4 rfl) ?_
  refine lv_iconst (v := 1) hx hb dX6_problem_30 (by decide) ?_
  refine lv_icmp_le (tgt := 38) hx hb dX6_problem_31 (by decide) (fun c8 => ?_) (fun c8 => ?_)
  · replace h := md_t c8 h
    refine lv_iload_n hx hb dX6_problem_38 rfl (lv_at hl 1 rfl) ?_
    by_cases c9 : p1 = (1 : Int32)
    · replace h := md_t c9 h
      refine lv_tableIn (tgt := 68) hx hb dX6_problem_39 (by rw [c9]; decide) (by rw [c9]; decide) (by rw [c9]; rfl) (by decide) ?_
      refine lv_iload_n hx hb dX6_problem_68 rfl (lv_at hl 2 rfl) ?_
      refine lv_i2l hx hb dX6_problem_69 rfl ?_
      refine lv_iload_n hx hb dX6_problem_70 rfl (lv_at hl 3 rfl) ?_
      refine lv_i2l hx hb dX6_problem_71 rfl ?_
      obtain ⟨u10, hu10, h⟩ := md_b h
      refine kS C (ctX6_share l  hu10) gX6_problem_X6_share rfl kdX6_share ⟨rfl, rfl⟩ ⟨by decide, by decide⟩ kT_blind (fun _ _ _ => trivial) rfl hl [] rfl (Nat.le_of_ble_eq_true rfl) dX6_problem_72 ⟨by decide, by decide⟩ ?_
      refine lv_iload hx hb dX6_problem_75 (lv_at hl 4 rfl) ?_
      obtain ⟨u11, hu11, h⟩ := md_b h
      refine kS C (ctX6_onlyAnswer l  hu11) gX6_problem_X6_onlyAnswer rfl kdX6_onlyAnswer ⟨rfl, rfl⟩ ⟨by decide, by decide⟩ kT_blind (fun _ _ _ => trivial) rfl hl [] rfl (Nat.le_of_ble_eq_true rfl) dX6_problem_77 ⟨by decide, by decide⟩ ?_
      exact hQ u11 80 ls h dX6_problem_80
    replace h := md_f c9 h
    by_cases c12 : p1 = (2 : Int32)
    · replace h := md_t c12 h
      refine lv_tableIn (tgt := 81) hx hb dX6_problem_39 (by rw [c12]; decide) (by rw [c12]; decide) (by rw [c12]; rfl) (by decide) ?_
      refine lv_iload_n hx hb dX6_problem_81 rfl (lv_at hl 2 rfl) ?_
      refine lv_i2l hx hb dX6_problem_82 rfl ?_
      obtain ⟨u13, hu13, h⟩ := md_b h
      refine kS C (ctX6_wholeRoot l  hu13) gX6_problem_X6_wholeRoot rfl kdX6_wholeRoot ⟨rfl, rfl⟩ ⟨by decide, by decide⟩ kT_blind (fun _ _ _ => trivial) rfl hl [] rfl (Nat.le_of_ble_eq_true rfl) dX6_problem_83 ⟨by decide, by decide⟩ ?_
      refine lv_iload hx hb dX6_problem_86 (lv_at hl 4 rfl) ?_
      obtain ⟨u14, hu14, h⟩ := md_b h
      refine kS C (ctX6_onlyAnswer l  hu14) gX6_problem_X6_onlyAnswer rfl kdX6_onlyAnswer ⟨rfl, rfl⟩ ⟨by decide, by decide⟩ kT_blind (fun _ _ _ => trivial) rfl hl [] rfl (Nat.le_of_ble_eq_true rfl) dX6_problem_88 ⟨by decide, by decide⟩ ?_
      exact hQ u14 91 ls h dX6_problem_91
    replace h := md_f c12 h
    by_cases c15 : p1 = (3 : Int32)
    · replace h := md_t c15 h
      refine lv_tableIn (tgt := 92) hx hb dX6_problem_39 (by rw [c15]; decide) (by rw [c15]; decide) (by rw [c15]; rfl) (by decide) ?_
      refine lv_iload_n hx hb dX6_problem_92 rfl (lv_at hl 2 rfl) ?_
      refine lv_i2l hx hb dX6_problem_93 rfl ?_
      refine lv_iload_n hx hb dX6_problem_94 rfl (lv_at hl 2 rfl) ?_
      refine lv_i2l hx hb dX6_problem_95 rfl ?_
      refine lv_lmul hx hb dX6_problem_96 ?_
      refine lv_ldc2 hx hb hown (hts _ wm_X6_problem_1) dX6_problem_97 ?_
      refine lv_iload_n hx hb dX6_problem_100 rfl (lv_at hl 3 rfl) ?_
      refine lv_i2l hx hb dX6_problem_101 rfl ?_
      refine lv_lmul hx hb dX6_problem_102 ?_
      refine lv_lsub hx hb dX6_problem_103 ?_
      obtain ⟨u16, hu16, h⟩ := md_b h
      refine kS C (ctX6_wholeRoot l  hu16) gX6_problem_X6_wholeRoot rfl kdX6_wholeRoot ⟨rfl, rfl⟩ ⟨by decide, by decide⟩ kT_blind (fun _ _ _ => trivial) rfl hl [] rfl (Nat.le_of_ble_eq_true rfl) dX6_problem_104 ⟨by decide, by decide⟩ ?_
      refine lv_iload_n hx hb dX6_problem_107 rfl (lv_at hl 2 rfl) ?_
      refine lv_i2l hx hb dX6_problem_108 rfl ?_
      refine lv_iload hx hb dX6_problem_109 (lv_at hl 4 rfl) ?_
      obtain ⟨u17, hu17, h⟩ := md_b h
      refine kS C (ctX6_sideOf l  hu17) gX6_problem_X6_sideOf rfl kdX6_sideOf ⟨rfl, rfl⟩ ⟨by decide, by decide⟩ kT_blind (fun _ _ _ => trivial) rfl hl [] rfl (Nat.le_of_ble_eq_true rfl) dX6_problem_111 ⟨by decide, by decide⟩ ?_
      exact hQ u17 114 ls h dX6_problem_114
    replace h := md_f c15 h
    by_cases c18 : p1 = (4 : Int32)
    · replace h := md_t c18 h
      refine lv_tableIn (tgt := 115) hx hb dX6_problem_39 (by rw [c18]; decide) (by rw [c18]; decide) (by rw [c18]; rfl) (by decide) ?_
      refine lv_iload_n hx hb dX6_problem_115 rfl (lv_at hl 2 rfl) ?_
      refine lv_i2l hx hb dX6_problem_116 rfl ?_
      refine lv_iload_n hx hb dX6_problem_117 rfl (lv_at hl 2 rfl) ?_
      refine lv_i2l hx hb dX6_problem_118 rfl ?_
      refine lv_iload_n hx hb dX6_problem_119 rfl (lv_at hl 2 rfl) ?_
      refine lv_i2l hx hb dX6_problem_120 rfl ?_
      refine lv_lmul hx hb dX6_problem_121 ?_
      refine lv_ldc2 hx hb hown (hts _ wm_X6_problem_1) dX6_problem_122 ?_
      refine lv_iload_n hx hb dX6_problem_125 rfl (lv_at hl 3 rfl) ?_
      refine lv_i2l hx hb dX6_problem_126 rfl ?_
      refine lv_lmul hx hb dX6_problem_127 ?_
      refine lv_ladd hx hb dX6_problem_128 ?_
      obtain ⟨u19, hu19, h⟩ := md_b h
      refine kS C (ctX6_wholeRoot l  hu19) gX6_problem_X6_wholeRoot rfl kdX6_wholeRoot ⟨rfl, rfl⟩ ⟨by decide, by decide⟩ kT_blind (fun _ _ _ => trivial) rfl hl [.long (Int32.toInt64 p2)] rfl (Nat.le_of_ble_eq_true rfl) dX6_problem_129 ⟨by decide, by decide⟩ ?_
      refine lv_iload hx hb dX6_problem_132 (lv_at hl 4 rfl) ?_
      obtain ⟨u20, hu20, h⟩ := md_b h
      refine kS C (ctX6_sideOf l  hu20) gX6_problem_X6_sideOf rfl kdX6_sideOf ⟨rfl, rfl⟩ ⟨by decide, by decide⟩ kT_blind (fun _ _ _ => trivial) rfl hl [] rfl (Nat.le_of_ble_eq_true rfl) dX6_problem_134 ⟨by decide, by decide⟩ ?_
      exact hQ u20 137 ls h dX6_problem_137
    replace h := md_f c18 h
    have tc9 := lv_neT (a := 1) c9 (by decide)
    have tc12 := lv_neT (a := 2) c12 (by decide)
    have tc15 := lv_neT (a := 3) c15 (by decide)
    have tc18 := lv_neT (a := 4) c18 (by decide)
    refine lv_tableOut (tgt := 138) hx hb dX6_problem_39 (by omega) (by decide) ?_
    refine lv_iload_n hx hb dX6_problem_138 rfl (lv_at hl 2 rfl) ?_
    refine lv_i2l hx hb dX6_problem_139 rfl ?_
    refine lv_iload_n hx hb dX6_problem_140 rfl (lv_at hl 3 rfl) ?_
    refine lv_i2l hx hb dX6_problem_141 rfl ?_
    refine lv_lmul hx hb dX6_problem_142 ?_
    refine lv_iload hx hb dX6_problem_143 (lv_at hl 4 rfl) ?_
    obtain ⟨u21, hu21, h⟩ := md_b h
    refine kS C (ctX6_onlyAnswer l  hu21) gX6_problem_X6_onlyAnswer rfl kdX6_onlyAnswer ⟨rfl, rfl⟩ ⟨by decide, by decide⟩ kT_blind (fun _ _ _ => trivial) rfl hl [] rfl (Nat.le_of_ble_eq_true rfl) dX6_problem_145 ⟨by decide, by decide⟩ ?_
    exact hQ u21 148 ls h dX6_problem_148
  replace h := md_f c8 h
  refine lv_ldc2 hx hb hown (hts _ wm_X6_problem_0) dX6_problem_34 ?_
  exact hQ (-1000000000000000002 : Int64) 37 ls h dX6_problem_37
set_option maxHeartbeats 4000000 in
theorem ctX6_problem (l : Launch) {xo : Nat} {p1 : Int32} {p2 : Int32} {p3 : Int32} {p4 : Int32} {res : Int64} (hm : mX6_problem p1 p2 p3 p4 = some res) : Met l yX6_problem wsX6_problem rmX6_problem (va_Pc [.ref xo, .int p1, .int p2, .int p3, .int p4] (fun _ => True)) (kR (.long res)) 0 0 (fun _ => False) :=
  km (by decide) rfl (Nat.le_of_ble_eq_true rfl) (fun p e s m below meth c ls C hB hl => bX6_problem C p1 p2 p3 p4 res (fun v pc ls h hd => kr_l C h hd) hm ls hl)
theorem kdX6_makesTriple : yX6_makesTriple.cls ≠ "java/lang/invoke/MethodHandle" ∧ yX6_makesTriple.cls ≠ "java/lang/invoke/VarHandle" ∧ (parseMethodDescriptor yX6_makesTriple.desc).map (fun d => d.parameters.length) = some 2 := by decide +kernel
abbrev rmX6_makesTriple : Room := { frames := 0, cells := 0, slots := 0, locals := 0 }
def mlX6_makesTriple_12 (x0 : Int32) (x1 : Int32) (kE : Unit → Option Int32) : Nat → Int32 → Option Int32
  | 0, _ => none
  | n + 1, x2 => (if x1 < x2 then (kE ()) else (if x2 = 0 then none else (md_jn (fun (u_31 : Unit) => (md_let (x2 + (1 : Int32)) (fun (x2_4 : Int32) => (mlX6_makesTriple_12 x0 x1 kE n x2_4)))) (fun kJ31 => (if (x0 - x0 / x2 * x2) = 0 then (if x2 = 0 then none else (if (x1 - x1 / x2 * x2) = 0 then (some (0 : Int32)) else (kJ31 ()))) else (kJ31 ()))))))
set_option maxHeartbeats 4000000 in
set_option maxRecDepth 100000 in
theorem lX6_makesTriple_12 {p : Program} {l : Launch} {e : Env} {s : State} {m : MethodId} {args : Array Value} {below : List Frame} {meth : Method} {c : Code} {Q : State → Prop} (C : kc p s m args meth c cX6_makesTriple 3 RX6 yX6_makesTriple.name wsX6_makesTriple (some .boolean)) (x0 : Int32) (x1 : Int32) (res : Int32) (hQ : ∀ (v : Int32) (pc : Nat) (ls : Array Slot), v = 0 ∨ v = 1 → some v = some res → decode cX6_makesTriple pc = .ok (.ireturn, 1) → W p l e rmX6_makesTriple s m args below meth c s.heap [] 0 0 Q (F0 m pc ls [.int v])) (kE : Unit → Option Int32) (hE : ∀ (u_ : Unit), kE u_ = some res → ∀ (ls : Array Slot), lv_has ls 3 [] → W p l e rmX6_makesTriple s m args below meth c s.heap [] 0 0 Q (F0 m 37 ls [])) : ∀ (n : Nat), ∀ (x2 : Int32), mlX6_makesTriple_12 x0 x1 kE n x2 = some res → ∀ (ls : Array Slot), lv_has ls 3 [(0, .int x0), (1, .int x1), (2, .int x2)] → W p l e rmX6_makesTriple s m args below meth c s.heap [] 0 0 Q (F0 m 12 ls []) := by
  have C0 := C
  obtain ⟨hx, hb, hml, hown, hts, hr, hlk, hnm⟩ := C0
  intro n
  induction n with
  | zero => intro _ h; exact md_x h
  | succ n ih =>
    intro x2 h ls hl
    rw [mlX6_makesTriple_12] at h
    refine lv_iload_n hx hb dX6_makesTriple_12 rfl (lv_at hl 2 rfl) ?_
    refine lv_iload_n hx hb dX6_makesTriple_13 rfl (lv_at hl 1 rfl) ?_
    refine lv_icmp_gt (tgt := 37) hx hb dX6_makesTriple_14 (by decide) (fun c2 => ?_) (fun c2 => ?_)
    · replace h := md_t c2 h
      exact hE () h ls (lv_sub hl [] rfl)
    replace h := md_f c2 h
    refine lv_iload_n hx hb dX6_makesTriple_17 rfl (lv_at hl 0 rfl) ?_
    refine lv_iload_n hx hb dX6_makesTriple_18 rfl (lv_at hl 2 rfl) ?_
    obtain ⟨hz3, h⟩ := md_g h
    refine lv_irem hx hb dX6_makesTriple_19 hz3 ?_
    obtain ⟨kJ31, ekJ31, h⟩ := md_jo h
    have KJ31 : ∀ (u_31 : Unit), kJ31 u_31 = some res → ∀ (ls : Array Slot), lv_has ls 3 [(0, .int x0), (1, .int x1), (2, .int x2)] → W p l e rmX6_makesTriple s m args below meth c s.heap [] 0 0 Q (F0 m 31 ls []) := by
      intro u_31 h ls hl
      rw [ekJ31] at h
      obtain ⟨x2_4, ex2_4⟩ : ∃ y : Int32, y = (x2 + (1 : Int32)) := ⟨_, rfl⟩
      replace h := md_le ex2_4 h
      refine lv_iinc (v := x2_4) (lv' := [(2, .int x2_4), (0, .int x0), (1, .int x1)]) hx hb dX6_makesTriple_31 hl (k := 2) rfl (by rw [ex2_4]; rfl) (by decide) rfl (fun ls hl => ?_)
      refine lv_goto (tgt := 12) hx hb dX6_makesTriple_34 (by decide) ?_
      exact ih x2_4 h ls (lv_sub hl [1, 2, 0] rfl)
    clear ekJ31
    refine lv_if_ne (tgt := 31) hx hb dX6_makesTriple_20 (by decide) (fun c5 => ?_) (fun c5 => ?_)
    · replace h := md_f c5 h
      exact KJ31 () h ls (lv_sub hl [0, 1, 2] rfl)
    replace h := md_t c5 h
    refine lv_iload_n hx hb dX6_makesTriple_23 rfl (lv_at hl 1 rfl) ?_
    refine lv_iload_n hx hb dX6_makesTriple_24 rfl (lv_at hl 2 rfl) ?_
    obtain ⟨hz6, h⟩ := md_g h
    refine lv_irem hx hb dX6_makesTriple_25 hz6 ?_
    refine lv_if_ne (tgt := 31) hx hb dX6_makesTriple_26 (by decide) (fun c7 => ?_) (fun c7 => ?_)
    · replace h := md_f c7 h
      exact KJ31 () h ls (lv_sub hl [0, 1, 2] rfl)
    replace h := md_t c7 h
    refine lv_iconst (v := 0) hx hb dX6_makesTriple_29 (by decide) ?_
    exact hQ (0 : Int32) 30 ls (by decide) h dX6_makesTriple_30
def mX6_makesTriple (p1 : Int32) (p2 : Int32) : Option Int32 := (if ((p1 + p2) - (p1 + p2) / (2 : Int32) * (2 : Int32)) = 0 then (some (0 : Int32)) else (mlX6_makesTriple_12 p1 p2 (fun (u_37 : Unit) => (some (1 : Int32))) kN (2 : Int32)))
set_option maxHeartbeats 4000000 in
set_option maxRecDepth 100000 in
theorem bX6_makesTriple {p : Program} {l : Launch} {e : Env} {s : State} {m : MethodId} {args : Array Value} {below : List Frame} {meth : Method} {c : Code} {Q : State → Prop} (C : kc p s m args meth c cX6_makesTriple 3 RX6 yX6_makesTriple.name wsX6_makesTriple (some .boolean)) (p1 : Int32) (p2 : Int32) (res : Int32) (hQ : ∀ (v : Int32) (pc : Nat) (ls : Array Slot), v = 0 ∨ v = 1 → some v = some res → decode cX6_makesTriple pc = .ok (.ireturn, 1) → W p l e rmX6_makesTriple s m args below meth c s.heap [] 0 0 Q (F0 m pc ls [.int v])) : mX6_makesTriple p1 p2 = some res → ∀ (ls : Array Slot), lv_has ls 3 [(0, .int p1), (1, .int p2)] → W p l e rmX6_makesTriple s m args below meth c s.heap [] 0 0 Q (F0 m 0 ls []) := by
  intro h ls hl
  have C0 := C
  obtain ⟨hx, hb, hml, hown, hts, hr, hlk, hnm⟩ := C0
  rw [mX6_makesTriple] at h
  refine lv_iload_n hx hb dX6_makesTriple_0 rfl (lv_at hl 0 rfl) ?_
  refine lv_iload_n hx hb dX6_makesTriple_1 rfl (lv_at hl 1 rfl) ?_
  refine lv_iadd hx hb dX6_makesTriple_2 ?_
  refine lv_iconst (v := 2) hx hb dX6_makesTriple_3 (by decide) ?_
  refine lv_irem hx hb dX6_makesTriple_4 (by decide) ?_
  refine lv_if_ne (tgt := 10) hx hb dX6_makesTriple_5 (by decide) (fun c1 => ?_) (fun c1 => ?_)
  · replace h := md_f c1 h
    refine lv_iconst (v := 2) hx hb dX6_makesTriple_10 (by decide) ?_
    refine lv_istore_n (lv' := [(2, .int (2 : Int32)), (0, .int p1), (1, .int p2)]) hx hb dX6_makesTriple_11 rfl hl (by decide) rfl (fun ls hl => ?_)
    refine lX6_makesTriple_12 C p1 p2 res hQ _ (fun u_37 h ls hl => ?_) kN (2 : Int32) h ls (lv_sub hl [1, 2, 0] rfl)
    refine lv_iconst (v := 1) hx hb dX6_makesTriple_37 (by decide) ?_
    exact hQ (1 : Int32) 38 ls (by decide) h dX6_makesTriple_38
  replace h := md_t c1 h
  refine lv_iconst (v := 0) hx hb dX6_makesTriple_8 (by decide) ?_
  exact hQ (0 : Int32) 9 ls (by decide) h dX6_makesTriple_9
set_option maxHeartbeats 4000000 in
theorem ctX6_makesTriple (l : Launch) {p1 : Int32} {p2 : Int32} {res : Int32} (hm : mX6_makesTriple p1 p2 = some res) : Met l yX6_makesTriple wsX6_makesTriple rmX6_makesTriple (va_Pc [.int p1, .int p2] (fun _ => True)) (kR (.int res)) 0 0 (fun _ => False) :=
  km (by decide) rfl (Nat.le_of_ble_eq_true rfl) (fun p e s m below meth c ls C hB hl => bX6_makesTriple C p1 p2 res (fun v pc ls hz h hd => kr_z C hz h hd) hm ls hl)
theorem wm_X6_mayBeTriple_0 : Cond.methodLink RX6 240 Lib.Math.min.name ∈ wsX6_mayBeTriple := by decide +kernel
theorem wm_X6_mayBeTriple_1 : Cond.static Lib.Math.min.name ∈ wsX6_mayBeTriple := by decide +kernel
theorem wm_X6_mayBeTriple_2 : Cond.initialized "java/lang/Math" ∈ wsX6_mayBeTriple := by decide +kernel
theorem wm_X6_mayBeTriple_3 : Cond.code Lib.Math.min.name Lib.Math.min.code 2 (some .int) ∈ wsX6_mayBeTriple := by decide +kernel
theorem wm_X6_mayBeTriple_4 : Cond.methodLink RX6 249 Lib.Math.max.name ∈ wsX6_mayBeTriple := by decide +kernel
theorem wm_X6_mayBeTriple_5 : Cond.static Lib.Math.max.name ∈ wsX6_mayBeTriple := by decide +kernel
theorem wm_X6_mayBeTriple_6 : Cond.code Lib.Math.max.name Lib.Math.max.code 2 (some .int) ∈ wsX6_mayBeTriple := by decide +kernel
theorem kdX6_mayBeTriple : yX6_mayBeTriple.cls ≠ "java/lang/invoke/MethodHandle" ∧ yX6_mayBeTriple.cls ≠ "java/lang/invoke/VarHandle" ∧ (parseMethodDescriptor yX6_mayBeTriple.desc).map (fun d => d.parameters.length) = some 4 := by decide +kernel
abbrev rmX6_mayBeTriple : Room := { frames := 2, cells := 0, slots := 0, locals := 48 }
def mX6_mayBeTriple (t_sixties : Nat → Int32) (p2 : Int32) (p3 : Int32) (p4 : Int32) : Option Int32 := (md_let ((p3 * p3) - (p4 * p4)) (fun (x4_1 : Int32) => (md_let (((2 : Int32) * p3) * p4) (fun (x5_2 : Int32) => (Option.bind (mX3_mayBe t_sixties p2 (0 : Int32) (if x5_2 < x4_1 then x5_2 else x4_1)) (fun u3 => (if u3 = 0 then (some (0 : Int32)) else (Option.bind (mX3_mayBe t_sixties p2 (1 : Int32) (if x4_1 < x5_2 then x5_2 else x4_1)) (fun u5 => (if u5 = 0 then (some (0 : Int32)) else (Option.bind (mX3_mayBe t_sixties p2 (2 : Int32) ((p3 * p3) + (p4 * p4))) (fun u7 => (if u7 = 0 then (some (0 : Int32)) else (some (1 : Int32)))))))))))))))
set_option maxHeartbeats 4000000 in
set_option maxRecDepth 100000 in
theorem bX6_mayBeTriple {p : Program} {l : Launch} {e : Env} {s : State} {m : MethodId} {args : Array Value} {below : List Frame} {meth : Method} {c : Code} {Q : State → Prop} (C : kc p s m args meth c cX6_mayBeTriple 6 RX6 yX6_mayBeTriple.name wsX6_mayBeTriple (some .boolean)) {D : va_G} {cI cT : ClassId} {to t_cells_a t_sixties_a : Nat} (p2 : Int32) (p3 : Int32) (p4 : Int32) (hK : va_K D vwCl (kTy cI cT) s) (t_cells : Nat → Int32) (t_sixties : Nat → Int32) (t_rows : Int32) (hP : va_P D vwCl [(to, .inr (1, [.ref t_cells_a, .ref t_sixties_a, .int t_rows])), (t_cells_a, .inl (cI, 24, .inl t_cells)), (t_sixties_a, .inl (cI, 24, .inl t_sixties))] s.heap) (res : Int32) (hQ : ∀ (v : Int32) (pc : Nat) (ls : Array Slot), v = 0 ∨ v = 1 → some v = some res → decode cX6_mayBeTriple pc = .ok (.ireturn, 1) → W p l e rmX6_mayBeTriple s m args below meth c s.heap [] 0 0 Q (F0 m pc ls [.int v])) : mX6_mayBeTriple t_sixties p2 p3 p4 = some res → ∀ (ls : Array Slot), lv_has ls 6 [(0, .ref to), (1, .int p2), (2, .int p3), (3, .int p4)] → W p l e rmX6_mayBeTriple s m args below meth c s.heap [] 0 0 Q (F0 m 0 ls []) := by
  intro h ls hl
  have C0 := C
  obtain ⟨hx, hb, hml, hown, hts, hr, hlk, hnm⟩ := C0
  rw [mX6_mayBeTriple] at h
  refine lv_iload_n hx hb dX6_mayBeTriple_0 rfl (lv_at hl 2 rfl) ?_
  refine lv_iload_n hx hb dX6_mayBeTriple_1 rfl (lv_at hl 2 rfl) ?_
  refine lv_imul hx hb dX6_mayBeTriple_2 ?_
  refine lv_iload_n hx hb dX6_mayBeTriple_3 rfl (lv_at hl 3 rfl) ?_
  refine lv_iload_n hx hb dX6_mayBeTriple_4 rfl (lv_at hl 3 rfl) ?_
  refine lv_imul hx hb dX6_mayBeTriple_5 ?_
  refine lv_isub hx hb dX6_mayBeTriple_6 ?_
  refine lv_topi (fun x4_1 ex4_1 => ?_)
  replace h := md_le ex4_1 h
  refine lv_istore (lv' := [(4, .int x4_1), (0, .ref to), (1, .int p2), (2, .int p3), (3, .int p4)]) hx hb dX6_mayBeTriple_7 hl (by decide) rfl (fun ls hl => ?_)
  refine lv_iconst (v := 2) hx hb dX6_mayBeTriple_9 (by decide) ?_
  refine lv_iload_n hx hb dX6_mayBeTriple_10 rfl (lv_at hl 3 rfl) ?_
  refine lv_imul hx hb dX6_mayBeTriple_11 ?_
  refine lv_iload_n hx hb dX6_mayBeTriple_12 rfl (lv_at hl 4 rfl) ?_
  refine lv_imul hx hb dX6_mayBeTriple_13 ?_
  refine lv_topi (fun x5_2 ex5_2 => ?_)
  replace h := md_le ex5_2 h
  refine lv_istore (lv' := [(5, .int x5_2), (4, .int x4_1), (0, .ref to), (1, .int p2), (2, .int p3), (3, .int p4)]) hx hb dX6_mayBeTriple_14 hl (by decide) rfl (fun ls hl => ?_)
  refine lv_aload_n hx hb dX6_mayBeTriple_16 rfl (lv_at hl 2 rfl) ?_
  refine lv_iload_n hx hb dX6_mayBeTriple_17 rfl (lv_at hl 3 rfl) ?_
  refine lv_iconst (v := 0) hx hb dX6_mayBeTriple_18 (by decide) ?_
  refine lv_iload hx hb dX6_mayBeTriple_19 (lv_at hl 1 rfl) ?_
  refine lv_iload hx hb dX6_mayBeTriple_21 (lv_at hl 0 rfl) ?_
  refine va_mmin hx hb (hml.trans hl.1.symm) hown (hts _ wm_X6_mayBeTriple_0) (hts _ wm_X6_mayBeTriple_1) (hts _ wm_X6_mayBeTriple_2) (hts _ wm_X6_mayBeTriple_3) (by decide) (Nat.le_of_ble_eq_true rfl) (by decide) (by decide) dX6_mayBeTriple_23 ?_
  obtain ⟨u3, hu3, h⟩ := md_b h
  refine kV C (ctX3_mayBe l  hu3) gX6_mayBeTriple_X3_mayBe rfl kdvX3_mayBe ⟨rfl, rfl⟩ ⟨by decide, by decide⟩ kW_blind (va_recv hK hP (ci := 1) (q0 := 0) rfl rfl) (kW_use hK (hP.sub (ws' := [(to, .inr (1, [.ref t_cells_a, .ref t_sixties_a, .int t_rows])), (t_cells_a, .inl (cI, 24, .inl t_cells)), (t_sixties_a, .inl (cI, 24, .inl t_sixties))]) [0, 1, 2] rfl) kL_no) rfl hl [] rfl (Nat.le_of_ble_eq_true rfl) dX6_mayBeTriple_26 ⟨by decide, by decide⟩ ?_
  refine lv_if_eq (tgt := 68) hx hb dX6_mayBeTriple_29 (by decide) (fun c4 => ?_) (fun c4 => ?_)
  · replace h := md_t c4 h
    refine lv_iconst (v := 0) hx hb dX6_mayBeTriple_68 (by decide) ?_
    exact hQ (0 : Int32) 69 ls (by decide) h dX6_mayBeTriple_69
  replace h := md_f c4 h
  refine lv_aload_n hx hb dX6_mayBeTriple_32 rfl (lv_at hl 2 rfl) ?_
  refine lv_iload_n hx hb dX6_mayBeTriple_33 rfl (lv_at hl 3 rfl) ?_
  refine lv_iconst (v := 1) hx hb dX6_mayBeTriple_34 (by decide) ?_
  refine lv_iload hx hb dX6_mayBeTriple_35 (lv_at hl 1 rfl) ?_
  refine lv_iload hx hb dX6_mayBeTriple_37 (lv_at hl 0 rfl) ?_
  refine va_mmax hx hb (hml.trans hl.1.symm) hown (hts _ wm_X6_mayBeTriple_4) (hts _ wm_X6_mayBeTriple_5) (hts _ wm_X6_mayBeTriple_2) (hts _ wm_X6_mayBeTriple_6) (by decide) (Nat.le_of_ble_eq_true rfl) (by decide) (by decide) dX6_mayBeTriple_39 ?_
  obtain ⟨u5, hu5, h⟩ := md_b h
  refine kV C (ctX3_mayBe l  hu5) gX6_mayBeTriple_X3_mayBe rfl kdvX3_mayBe ⟨rfl, rfl⟩ ⟨by decide, by decide⟩ kW_blind (va_recv hK hP (ci := 1) (q0 := 0) rfl rfl) (kW_use hK (hP.sub (ws' := [(to, .inr (1, [.ref t_cells_a, .ref t_sixties_a, .int t_rows])), (t_cells_a, .inl (cI, 24, .inl t_cells)), (t_sixties_a, .inl (cI, 24, .inl t_sixties))]) [0, 1, 2] rfl) kL_no) rfl hl [] rfl (Nat.le_of_ble_eq_true rfl) dX6_mayBeTriple_42 ⟨by decide, by decide⟩ ?_
  refine lv_if_eq (tgt := 68) hx hb dX6_mayBeTriple_45 (by decide) (fun c6 => ?_) (fun c6 => ?_)
  · replace h := md_t c6 h
    refine lv_iconst (v := 0) hx hb dX6_mayBeTriple_68 (by decide) ?_
    exact hQ (0 : Int32) 69 ls (by decide) h dX6_mayBeTriple_69
  replace h := md_f c6 h
  refine lv_aload_n hx hb dX6_mayBeTriple_48 rfl (lv_at hl 2 rfl) ?_
  refine lv_iload_n hx hb dX6_mayBeTriple_49 rfl (lv_at hl 3 rfl) ?_
  refine lv_iconst (v := 2) hx hb dX6_mayBeTriple_50 (by decide) ?_
  refine lv_iload_n hx hb dX6_mayBeTriple_51 rfl (lv_at hl 4 rfl) ?_
  refine lv_iload_n hx hb dX6_mayBeTriple_52 rfl (lv_at hl 4 rfl) ?_
  refine lv_imul hx hb dX6_mayBeTriple_53 ?_
  refine lv_iload_n hx hb dX6_mayBeTriple_54 rfl (lv_at hl 5 rfl) ?_
  refine lv_iload_n hx hb dX6_mayBeTriple_55 rfl (lv_at hl 5 rfl) ?_
  refine lv_imul hx hb dX6_mayBeTriple_56 ?_
  refine lv_iadd hx hb dX6_mayBeTriple_57 ?_
  obtain ⟨u7, hu7, h⟩ := md_b h
  refine kV C (ctX3_mayBe l  hu7) gX6_mayBeTriple_X3_mayBe rfl kdvX3_mayBe ⟨rfl, rfl⟩ ⟨by decide, by decide⟩ kW_blind (va_recv hK hP (ci := 1) (q0 := 0) rfl rfl) (kW_use hK (hP.sub (ws' := [(to, .inr (1, [.ref t_cells_a, .ref t_sixties_a, .int t_rows])), (t_cells_a, .inl (cI, 24, .inl t_cells)), (t_sixties_a, .inl (cI, 24, .inl t_sixties))]) [0, 1, 2] rfl) kL_no) rfl hl [] rfl (Nat.le_of_ble_eq_true rfl) dX6_mayBeTriple_58 ⟨by decide, by decide⟩ ?_
  refine lv_if_eq (tgt := 68) hx hb dX6_mayBeTriple_61 (by decide) (fun c8 => ?_) (fun c8 => ?_)
  · replace h := md_t c8 h
    refine lv_iconst (v := 0) hx hb dX6_mayBeTriple_68 (by decide) ?_
    exact hQ (0 : Int32) 69 ls (by decide) h dX6_mayBeTriple_69
  replace h := md_f c8 h
  refine lv_iconst (v := 1) hx hb dX6_mayBeTriple_64 (by decide) ?_
  refine lv_goto (tgt := 69) hx hb dX6_mayBeTriple_65 (by decide) ?_
  exact hQ (1 : Int32) 69 ls (by decide) h dX6_mayBeTriple_69
set_option maxHeartbeats 4000000 in
theorem ctX6_mayBeTriple (l : Launch) {D : va_G} {cI cT : ClassId} {to t_cells_a t_sixties_a : Nat} {t_cells : Nat → Int32} {t_sixties : Nat → Int32} {t_rows : Int32} {p2 : Int32} {p3 : Int32} {p4 : Int32} {res : Int32} (hm : mX6_mayBeTriple t_sixties p2 p3 p4 = some res) : Met l yX6_mayBeTriple wsX6_mayBeTriple rmX6_mayBeTriple (va_Pc [.ref to, .int p2, .int p3, .int p4] (kW D cI cT [(to, .inr (1, [.ref t_cells_a, .ref t_sixties_a, .int t_rows])), (t_cells_a, .inl (cI, 24, .inl t_cells)), (t_sixties_a, .inl (cI, 24, .inl t_sixties))] none (fun _ => False))) (kR (.int res)) 0 0 (fun _ => False) :=
  km (by decide) rfl (Nat.le_of_ble_eq_true rfl) (fun p e s m below meth c ls C hB hl => bX6_mayBeTriple C p2 p3 p4 hB.1 t_cells t_sixties t_rows hB.2.1 res (fun v pc ls hz h hd => kr_z C hz h hd) hm ls hl)
theorem wm_X6_unit_0 : Cond.fieldLink RX6 27 "SixtyTablet" "stepCount" "I" ∈ wsX6_unit := by decide +kernel
theorem wm_X6_unit_1 : Cond.fieldLink RX6 23 "SixtyTablet" "steps" "[I" ∈ wsX6_unit := by decide +kernel
theorem wi_X6_unit_X6 : ∀ w ∈ wsX60, w ∈ wsX6_unit := by decide +kernel
theorem kdvX6_unit : yX6_unit.cls = RX6 ∧ yX6_unit.cls ≠ "java/lang/invoke/MethodHandle" ∧ yX6_unit.cls ≠ "java/lang/invoke/VarHandle" ∧ (parseMethodDescriptor yX6_unit.desc).map (fun d => d.parameters.length) = some 1 := by decide +kernel
abbrev rmX6_unit : Room := { frames := 0, cells := 0, slots := 0, locals := 0 }
def mX6_unit (x_steps : Nat → Int32) (x_stepCount : Int32) (p1 : Int32) : Option (Int32 × (Nat → Int32) × Int32) := (if p1 < (2 : Int32) then (some ((-2 : Int32), x_steps, x_stepCount)) else (if p1 ≤ (100 : Int32) then (if x_stepCount < 0 then (some ((-4 : Int32), x_steps, x_stepCount)) else (if x_stepCount < (5 : Int32) then (if x_stepCount < 0 ∨ 5 ≤ (Int32.toNatClampNeg x_stepCount) then none else (md_let (upd x_steps (Int32.toNatClampNeg x_stepCount) p1) (fun (x_steps_5 : Nat → Int32) => (md_let (x_stepCount + (1 : Int32)) (fun (f_6 : Int32) => (some (f_6, x_steps_5, f_6))))))) else (some ((-4 : Int32), x_steps, x_stepCount)))) else (some ((-2 : Int32), x_steps, x_stepCount))))
set_option maxHeartbeats 4000000 in
set_option maxRecDepth 100000 in
theorem bX6_unit {p : Program} {l : Launch} {e : Env} {s : State} {m : MethodId} {args : Array Value} {below : List Frame} {meth : Method} {c : Code} {Q : State → Prop} (C : kc p s m args meth c cX6_unit 2 RX6 yX6_unit.name wsX6_unit (some .int)) {D : va_G} {cI cT : ClassId} {xo wo x_tablets_a so x_steps_a : Nat} (p1 : Int32) (hK : va_K D vwCl (kTy cI cT) s) (hnd : ([xo, x_steps_a] : List Nat).Nodup) (x_steps : Nat → Int32) (x_stepCount : Int32) (res : (Int32 × (Nat → Int32) × Int32)) (hQ : ∀ (v : Int32) (x_steps : Nat → Int32) (x_stepCount : Int32) (H : Heap) (locs : List Loc) (pc : Nat) (ls : Array Slot), some (v, x_steps, x_stepCount) = some res → va_P D vwCl [(xo, .inr (3, [.ref wo, .ref x_tablets_a, .ref so, .ref x_steps_a, .int x_stepCount])), (x_steps_a, .inl (cI, 5, .inl x_steps))] H → va_S (fun q => q ∈ ([xo, x_steps_a] : List Nat)) s.heap H locs → decode cX6_unit pc = .ok (.ireturn, 1) → W p l e rmX6_unit s m args below meth c H locs 0 0 Q (F0 m pc ls [.int v])) : mX6_unit x_steps x_stepCount p1 = some res → ∀ (H : Heap) (locs : List Loc), va_P D vwCl [(xo, .inr (3, [.ref wo, .ref x_tablets_a, .ref so, .ref x_steps_a, .int x_stepCount])), (x_steps_a, .inl (cI, 5, .inl x_steps))] H → va_S (fun q => q ∈ ([xo, x_steps_a] : List Nat)) s.heap H locs → ∀ (ls : Array Slot), lv_has ls 2 [(0, .ref xo), (1, .int p1)] → W p l e rmX6_unit s m args below meth c H locs 0 0 Q (F0 m 0 ls []) := by
  intro h H locs hP hS ls hl
  have C0 := C
  obtain ⟨hx, hb, hml, hown, hts, hr, hlk, hnm⟩ := C0
  rw [mX6_unit] at h
  refine lv_iload_n hx hb dX6_unit_0 rfl (lv_at hl 1 rfl) ?_
  refine lv_iconst (v := 2) hx hb dX6_unit_1 (by decide) ?_
  refine lv_icmp_lt (tgt := 11) hx hb dX6_unit_2 (by decide) (fun c1 => ?_) (fun c1 => ?_)
  · replace h := md_t c1 h
    refine lv_bipush (v := -2) hx hb dX6_unit_11 (by decide) ?_
    exact hQ (-2 : Int32) x_steps x_stepCount H locs 13 ls h hP hS dX6_unit_13
  replace h := md_f c1 h
  refine lv_iload_n hx hb dX6_unit_5 rfl (lv_at hl 1 rfl) ?_
  refine lv_bipush (v := 100) hx hb dX6_unit_6 (by decide) ?_
  refine lv_icmp_le (tgt := 14) hx hb dX6_unit_8 (by decide) (fun c2 => ?_) (fun c2 => ?_)
  · replace h := md_t c2 h
    refine lv_aload_n hx hb dX6_unit_14 rfl (lv_at hl 0 rfl) ?_
    refine va_get (D := D) (ci := 3) (v := .int x_stepCount) (C := RX6) (T := TX6) (N := 5) hx hb hts wi_X6_unit_X6 hown hK hP 0 rfl rfl 4 (by decide) (hts _ wm_X6_unit_0) (fun _ h9 => h9) rfl dX6_unit_15 ?_
    refine lv_if_lt (tgt := 33) hx hb dX6_unit_18 (by decide) (fun c3 => ?_) (fun c3 => ?_)
    · replace h := md_t c3 h
      refine lv_bipush (v := -4) hx hb dX6_unit_33 (by decide) ?_
      exact hQ (-4 : Int32) x_steps x_stepCount H locs 35 ls h hP hS dX6_unit_35
    replace h := md_f c3 h
    refine lv_aload_n hx hb dX6_unit_21 rfl (lv_at hl 0 rfl) ?_
    refine va_get (D := D) (ci := 3) (v := .int x_stepCount) (C := RX6) (T := TX6) (N := 5) hx hb hts wi_X6_unit_X6 hown hK hP 0 rfl rfl 4 (by decide) (hts _ wm_X6_unit_0) (fun _ h9 => h9) rfl dX6_unit_22 ?_
    refine lv_aload_n hx hb dX6_unit_25 rfl (lv_at hl 0 rfl) ?_
    refine va_get (D := D) (ci := 3) (v := .ref x_steps_a) (C := RX6) (T := TX6) (N := 5) hx hb hts wi_X6_unit_X6 hown hK hP 0 rfl rfl 3 (by decide) (hts _ wm_X6_unit_1) (fun _ h9 => h9) rfl dX6_unit_26 ?_
    refine va_alen hx hb hK hP 1 0 rfl rfl (v := 5) rfl dX6_unit_29 ?_
    refine lv_icmp_lt (tgt := 36) hx hb dX6_unit_30 (by decide) (fun c4 => ?_) (fun c4 => ?_)
    · replace h := md_t c4 h
      refine lv_aload_n hx hb dX6_unit_36 rfl (lv_at hl 0 rfl) ?_
      refine va_get (D := D) (ci := 3) (v := .ref x_steps_a) (C := RX6) (T := TX6) (N := 5) hx hb hts wi_X6_unit_X6 hown hK hP 0 rfl rfl 3 (by decide) (hts _ wm_X6_unit_1) (fun _ h9 => h9) rfl dX6_unit_37 ?_
      refine lv_aload_n hx hb dX6_unit_40 rfl (lv_at hl 0 rfl) ?_
      refine va_get (D := D) (ci := 3) (v := .int x_stepCount) (C := RX6) (T := TX6) (N := 5) hx hb hts wi_X6_unit_X6 hown hK hP 0 rfl rfl 4 (by decide) (hts _ wm_X6_unit_0) (fun _ h9 => h9) rfl dX6_unit_41 ?_
      refine lv_iload_n hx hb dX6_unit_44 rfl (lv_at hl 1 rfl) ?_
      obtain ⟨hin5, h⟩ := md_g h
      refine va_iast hx hb hK hP (kD hnd rfl) hS 1 0 rfl rfl hin5 dX6_unit_45 (fun H locs hP _ hS => ?_)
      have hP : va_P D vwCl [(xo, .inr (3, [.ref wo, .ref x_tablets_a, .ref so, .ref x_steps_a, .int x_stepCount])), (x_steps_a, .inl (cI, 5, .inl (upd x_steps (Int32.toNatClampNeg x_stepCount) p1)))] H := hP
      obtain ⟨x_steps_5, ex_steps_5⟩ : ∃ y : Nat → Int32, y = (upd x_steps (Int32.toNatClampNeg x_stepCount) p1) := ⟨_, rfl⟩
      replace h := md_le ex_steps_5 h
      rw [← ex_steps_5] at hP
      refine lv_aload_n hx hb dX6_unit_46 rfl (lv_at hl 0 rfl) ?_
      refine lv_dup hx hb dX6_unit_47 rfl ?_
      refine va_get (D := D) (ci := 3) (v := .int x_stepCount) (C := RX6) (T := TX6) (N := 5) hx hb hts wi_X6_unit_X6 hown hK hP 0 rfl rfl 4 (by decide) (hts _ wm_X6_unit_0) (fun _ h9 => h9) rfl dX6_unit_48 ?_
      refine lv_iconst (v := 1) hx hb dX6_unit_51 (by decide) ?_
      refine lv_iadd hx hb dX6_unit_52 ?_
      refine lv_topi (fun f_6 ef_6 => ?_)
      replace h := md_le ef_6 h
      refine va_put (D := D) (ci := 3) (v := .int f_6) (ty := .int) (C := RX6) (T := TX6) (N := 5) hx hb hts wi_X6_unit_X6 tyX6 tyX6_ok nmX6 hown hK hP (kD hnd rfl) hS 0 rfl rfl 4 (by decide) (hts _ wm_X6_unit_0) (fun _ h9 => h9) rfl (by decide +kernel) rfl rfl (Nat.le_of_ble_eq_true rfl) dX6_unit_53 (fun H locs hP _ hS => ?_)
      have hP : va_P D vwCl [(xo, .inr (3, [.ref wo, .ref x_tablets_a, .ref so, .ref x_steps_a, .int f_6])), (x_steps_a, .inl (cI, 5, .inl x_steps_5))] H := hP
      refine lv_aload_n hx hb dX6_unit_56 rfl (lv_at hl 0 rfl) ?_
      refine va_get (D := D) (ci := 3) (v := .int f_6) (C := RX6) (T := TX6) (N := 5) hx hb hts wi_X6_unit_X6 hown hK hP 0 rfl rfl 4 (by decide) (hts _ wm_X6_unit_0) (fun _ h9 => h9) rfl dX6_unit_57 ?_
      exact hQ f_6 x_steps_5 f_6 H locs 60 ls h hP hS dX6_unit_60
    replace h := md_f c4 h
    refine lv_bipush (v := -4) hx hb dX6_unit_33 (by decide) ?_
    exact hQ (-4 : Int32) x_steps x_stepCount H locs 35 ls h hP hS dX6_unit_35
  replace h := md_f c2 h
  refine lv_bipush (v := -2) hx hb dX6_unit_11 (by decide) ?_
  exact hQ (-2 : Int32) x_steps x_stepCount H locs 13 ls h hP hS dX6_unit_13
set_option maxHeartbeats 4000000 in
theorem ctX6_unit (l : Launch) {D : va_G} {cI cT : ClassId} {xo wo x_tablets_a so x_steps_a : Nat} {x_steps : Nat → Int32} {x_stepCount : Int32} {p1 : Int32} {res : (Int32 × (Nat → Int32) × Int32)} (hnd : ([xo, x_steps_a] : List Nat).Nodup) (hm : mX6_unit x_steps x_stepCount p1 = some res) : Met l yX6_unit wsX6_unit rmX6_unit (va_Pc [.ref xo, .int p1] (kW D cI cT [(xo, .inr (3, [.ref wo, .ref x_tablets_a, .ref so, .ref x_steps_a, .int x_stepCount])), (x_steps_a, .inl (cI, 5, .inl x_steps))] none (fun q => q ∈ ([xo, x_steps_a] : List Nat)))) (kX (some (.int res.1)) D [(xo, .inr (3, [.ref wo, .ref x_tablets_a, .ref so, .ref x_steps_a, .int res.2.2])), (x_steps_a, .inl (cI, 5, .inl res.2.1))] (fun q => q ∈ ([xo, x_steps_a] : List Nat))) 0 0 (fun q => q ∈ ([xo, x_steps_a] : List Nat)) :=
  km (by decide) rfl (Nat.le_of_ble_eq_true rfl) (fun p e s m below meth c ls C hB hl => bX6_unit C p1 hB.1 hnd x_steps x_stepCount res (fun v x_steps1 x_stepCount1 H locs pc ls h hP hS hd => by obtain rfl := Option.some.inj h; exact kx_i C hP hS hd) hm s.heap [] hB.2.1 va_S.rf ls hl)
theorem wm_X6_wipe_0 : Cond.fieldLink RX6 27 "SixtyTablet" "stepCount" "I" ∈ wsX6_wipe := by decide +kernel
theorem wi_X6_wipe_X6 : ∀ w ∈ wsX60, w ∈ wsX6_wipe := by decide +kernel
theorem kdvX6_wipe : yX6_wipe.cls = RX6 ∧ yX6_wipe.cls ≠ "java/lang/invoke/MethodHandle" ∧ yX6_wipe.cls ≠ "java/lang/invoke/VarHandle" ∧ (parseMethodDescriptor yX6_wipe.desc).map (fun d => d.parameters.length) = some 0 := by decide +kernel
abbrev rmX6_wipe : Room := { frames := 0, cells := 0, slots := 0, locals := 0 }
def mX6_wipe (x_stepCount : Int32) : Option (Int32 × Int32) := (some (x_stepCount, (0 : Int32)))
set_option maxHeartbeats 4000000 in
set_option maxRecDepth 100000 in
theorem bX6_wipe {p : Program} {l : Launch} {e : Env} {s : State} {m : MethodId} {args : Array Value} {below : List Frame} {meth : Method} {c : Code} {Q : State → Prop} (C : kc p s m args meth c cX6_wipe 2 RX6 yX6_wipe.name wsX6_wipe (some .int)) {D : va_G} {cI cT : ClassId} {xo wo x_tablets_a so x_steps_a : Nat} (hK : va_K D vwCl (kTy cI cT) s) (hnd : ([xo, x_steps_a] : List Nat).Nodup) (x_steps : Nat → Int32) (x_stepCount : Int32) (res : (Int32 × Int32)) (hQ : ∀ (v : Int32) (x_stepCount : Int32) (H : Heap) (locs : List Loc) (pc : Nat) (ls : Array Slot), some (v, x_stepCount) = some res → va_P D vwCl [(xo, .inr (3, [.ref wo, .ref x_tablets_a, .ref so, .ref x_steps_a, .int x_stepCount])), (x_steps_a, .inl (cI, 5, .inl x_steps))] H → va_S (fun q => q ∈ ([xo, x_steps_a] : List Nat)) s.heap H locs → decode cX6_wipe pc = .ok (.ireturn, 1) → W p l e rmX6_wipe s m args below meth c H locs 0 0 Q (F0 m pc ls [.int v])) : mX6_wipe x_stepCount = some res → ∀ (H : Heap) (locs : List Loc), va_P D vwCl [(xo, .inr (3, [.ref wo, .ref x_tablets_a, .ref so, .ref x_steps_a, .int x_stepCount])), (x_steps_a, .inl (cI, 5, .inl x_steps))] H → va_S (fun q => q ∈ ([xo, x_steps_a] : List Nat)) s.heap H locs → ∀ (ls : Array Slot), lv_has ls 2 [(0, .ref xo)] → W p l e rmX6_wipe s m args below meth c H locs 0 0 Q (F0 m 0 ls []) := by
  intro h H locs hP hS ls hl
  have C0 := C
  obtain ⟨hx, hb, hml, hown, hts, hr, hlk, hnm⟩ := C0
  rw [mX6_wipe] at h
  refine lv_aload_n hx hb dX6_wipe_0 rfl (lv_at hl 0 rfl) ?_
  refine va_get (D := D) (ci := 3) (v := .int x_stepCount) (C := RX6) (T := TX6) (N := 5) hx hb hts wi_X6_wipe_X6 hown hK hP 0 rfl rfl 4 (by decide) (hts _ wm_X6_wipe_0) (fun _ h9 => h9) rfl dX6_wipe_1 ?_
  refine lv_istore_n (lv' := [(1, .int x_stepCount), (0, .ref xo)]) hx hb dX6_wipe_4 rfl hl (by decide) rfl (fun ls hl => ?_)
  refine lv_aload_n hx hb dX6_wipe_5 rfl (lv_at hl 1 rfl) ?_
  refine lv_iconst (v := 0) hx hb dX6_wipe_6 (by decide) ?_
  refine va_put (D := D) (ci := 3) (v := .int (0 : Int32)) (ty := .int) (C := RX6) (T := TX6) (N := 5) hx hb hts wi_X6_wipe_X6 tyX6 tyX6_ok nmX6 hown hK hP (kD hnd rfl) hS 0 rfl rfl 4 (by decide) (hts _ wm_X6_wipe_0) (fun _ h9 => h9) rfl (by decide +kernel) rfl rfl (Nat.le_of_ble_eq_true rfl) dX6_wipe_7 (fun H locs hP _ hS => ?_)
  have hP : va_P D vwCl [(xo, .inr (3, [.ref wo, .ref x_tablets_a, .ref so, .ref x_steps_a, .int (0 : Int32)])), (x_steps_a, .inl (cI, 5, .inl x_steps))] H := hP
  refine lv_iload_n hx hb dX6_wipe_10 rfl (lv_at hl 0 rfl) ?_
  exact hQ x_stepCount (0 : Int32) H locs 11 ls h hP hS dX6_wipe_11
set_option maxHeartbeats 4000000 in
theorem ctX6_wipe (l : Launch) {D : va_G} {cI cT : ClassId} {xo wo x_tablets_a so x_steps_a : Nat} {x_steps : Nat → Int32} {x_stepCount : Int32} {res : (Int32 × Int32)} (hnd : ([xo, x_steps_a] : List Nat).Nodup) (hm : mX6_wipe x_stepCount = some res) : Met l yX6_wipe wsX6_wipe rmX6_wipe (va_Pc [.ref xo] (kW D cI cT [(xo, .inr (3, [.ref wo, .ref x_tablets_a, .ref so, .ref x_steps_a, .int x_stepCount])), (x_steps_a, .inl (cI, 5, .inl x_steps))] none (fun q => q ∈ ([xo, x_steps_a] : List Nat)))) (kX (some (.int res.1)) D [(xo, .inr (3, [.ref wo, .ref x_tablets_a, .ref so, .ref x_steps_a, .int res.2])), (x_steps_a, .inl (cI, 5, .inl x_steps))] (fun q => q ∈ ([xo, x_steps_a] : List Nat))) 0 0 (fun q => q ∈ ([xo, x_steps_a] : List Nat)) :=
  km (by decide) rfl (Nat.le_of_ble_eq_true rfl) (fun p e s m below meth c ls C hB hl => bX6_wipe C hB.1 hnd x_steps x_stepCount res (fun v x_stepCount1 H locs pc ls h hP hS hd => by obtain rfl := Option.some.inj h; exact kx_i C hP hS hd) hm s.heap [] hB.2.1 va_S.rf ls hl)
theorem wm_X6_units_0 : Cond.constantLong RX6 134 (-1000000000000000001) ∈ wsX6_units := by decide +kernel
theorem wm_X6_units_1 : Cond.fieldLink RX6 27 "SixtyTablet" "stepCount" "I" ∈ wsX6_units := by decide +kernel
theorem wm_X6_units_2 : Cond.constantLong RX6 48 (-1000000000000000002) ∈ wsX6_units := by decide +kernel
theorem wm_X6_units_3 : Cond.constantLong RX6 76 (167961600000000) ∈ wsX6_units := by decide +kernel
theorem wm_X6_units_4 : Cond.fieldLink RX6 23 "SixtyTablet" "steps" "[I" ∈ wsX6_units := by decide +kernel
theorem wi_X6_units_X6 : ∀ w ∈ wsX60, w ∈ wsX6_units := by decide +kernel
theorem kdvX6_units : yX6_units.cls = RX6 ∧ yX6_units.cls ≠ "java/lang/invoke/MethodHandle" ∧ yX6_units.cls ≠ "java/lang/invoke/VarHandle" ∧ (parseMethodDescriptor yX6_units.desc).map (fun d => d.parameters.length) = some 2 := by decide +kernel
abbrev rmX6_units : Room := { frames := 0, cells := 0, slots := 0, locals := 0 }
def mlX6_units_40 (x3 : Int32) (x_steps : Nat → Int32) (kE : Int64 → Option Int64) : Nat → Int64 → Int32 → Option Int64
  | 0, _, _ => none
  | n + 1, x4, x6 => (if x3 ≤ x6 then (kE x4) else (if (5 : Int32) ≤ x6 then (kE x4) else (if x6 < 0 ∨ 5 ≤ (Int32.toNatClampNeg x6) then none else (md_jn (fun (z0_82 : Int64) => (md_let (x6 + (1 : Int32)) (fun (x6_8 : Int32) => (mlX6_units_40 x3 x_steps kE n z0_82 x6_8)))) (fun kJ82 => (if (x_steps (Int32.toNatClampNeg x6)) ≤ 0 then (kJ82 x4) else (if x6 < 0 ∨ 5 ≤ (Int32.toNatClampNeg x6) then none else (if (Int32.toInt64 (x_steps (Int32.toNatClampNeg x6))) = 0 then none else (kJ82 (x4 / (Int32.toInt64 (x_steps (Int32.toNatClampNeg x6)))))))))))))
set_option maxHeartbeats 4000000 in
set_option maxRecDepth 100000 in
theorem lX6_units_40 {p : Program} {l : Launch} {e : Env} {s : State} {m : MethodId} {args : Array Value} {below : List Frame} {meth : Method} {c : Code} {Q : State → Prop} (C : kc p s m args meth c cX6_units 7 RX6 yX6_units.name wsX6_units (some .long)) {D : va_G} {cI cT : ClassId} {xo wo x_tablets_a so x_steps_a : Nat} (hK : va_K D vwCl (kTy cI cT) s) (x3 : Int32) (x_steps : Nat → Int32) (x_stepCount : Int32) (hP : va_P D vwCl [(xo, .inr (3, [.ref wo, .ref x_tablets_a, .ref so, .ref x_steps_a, .int x_stepCount])), (x_steps_a, .inl (cI, 5, .inl x_steps))] s.heap) (res : Int64) (hQ : ∀ (v : Int64) (pc : Nat) (ls : Array Slot), some v = some res → decode cX6_units pc = .ok (.lreturn, 1) → W p l e rmX6_units s m args below meth c s.heap [] 0 0 Q (F0 m pc ls [.long v])) (kE : Int64 → Option Int64) (hE : ∀ (y4 : Int64), kE y4 = some res → ∀ (ls : Array Slot), lv_has ls 7 [(0, .ref xo), (3, .int x3), (4, .long y4)] → W p l e rmX6_units s m args below meth c s.heap [] 0 0 Q (F0 m 90 ls [])) : ∀ (n : Nat), ∀ (x4 : Int64) (x6 : Int32), mlX6_units_40 x3 x_steps kE n x4 x6 = some res → ∀ (ls : Array Slot), lv_has ls 7 [(0, .ref xo), (3, .int x3), (4, .long x4), (6, .int x6)] → W p l e rmX6_units s m args below meth c s.heap [] 0 0 Q (F0 m 40 ls []) := by
  have C0 := C
  obtain ⟨hx, hb, hml, hown, hts, hr, hlk, hnm⟩ := C0
  intro n
  induction n with
  | zero => intro _ _ h; exact md_x h
  | succ n ih =>
    intro x4 x6 h ls hl
    rw [mlX6_units_40] at h
    refine lv_iload hx hb dX6_units_40 (lv_at hl 3 rfl) ?_
    refine lv_iload_n hx hb dX6_units_42 rfl (lv_at hl 1 rfl) ?_
    refine lv_icmp_ge (tgt := 90) hx hb dX6_units_43 (by decide) (fun c5 => ?_) (fun c5 => ?_)
    · replace h := md_t c5 h
      exact hE x4 h ls (lv_sub hl [0, 1, 2] rfl)
    replace h := md_f c5 h
    refine lv_iload hx hb dX6_units_46 (lv_at hl 3 rfl) ?_
    refine lv_aload_n hx hb dX6_units_48 rfl (lv_at hl 0 rfl) ?_
    refine va_get (D := D) (ci := 3) (v := .ref x_steps_a) (C := RX6) (T := TX6) (N := 5) hx hb hts wi_X6_units_X6 hown hK hP 0 rfl rfl 3 (by decide) (hts _ wm_X6_units_4) (fun _ h9 => h9) rfl dX6_units_49 ?_
    refine va_alen hx hb hK hP 1 0 rfl rfl (v := 5) rfl dX6_units_52 ?_
    refine lv_icmp_ge (tgt := 90) hx hb dX6_units_53 (by decide) (fun c6 => ?_) (fun c6 => ?_)
    · replace h := md_t c6 h
      exact hE x4 h ls (lv_sub hl [0, 1, 2] rfl)
    replace h := md_f c6 h
    refine lv_aload_n hx hb dX6_units_56 rfl (lv_at hl 0 rfl) ?_
    refine va_get (D := D) (ci := 3) (v := .ref x_steps_a) (C := RX6) (T := TX6) (N := 5) hx hb hts wi_X6_units_X6 hown hK hP 0 rfl rfl 3 (by decide) (hts _ wm_X6_units_4) (fun _ h9 => h9) rfl dX6_units_57 ?_
    refine lv_iload hx hb dX6_units_60 (lv_at hl 3 rfl) ?_
    obtain ⟨hin7, h⟩ := md_g h
    refine va_iald hx hb hK hP 1 0 rfl rfl hin7 dX6_units_62 ?_
    obtain ⟨kJ82, ekJ82, h⟩ := md_jo h
    have KJ82 : ∀ (z0_82 : Int64), kJ82 z0_82 = some res → ∀ (ls : Array Slot), lv_has ls 7 [(0, .ref xo), (3, .int x3), (6, .int x6)] → W p l e rmX6_units s m args below meth c s.heap [] 0 0 Q (F0 m 82 ls [.long z0_82]) := by
      intro z0_82 h ls hl
      rw [ekJ82] at h
      refine lv_lstore (lv' := [(4, .long z0_82), (0, .ref xo), (3, .int x3), (6, .int x6)]) hx hb dX6_units_82 hl (by decide) rfl (fun ls hl => ?_)
      obtain ⟨x6_8, ex6_8⟩ : ∃ y : Int32, y = (x6 + (1 : Int32)) := ⟨_, rfl⟩
      replace h := md_le ex6_8 h
      refine lv_iinc (v := x6_8) (lv' := [(6, .int x6_8), (4, .long z0_82), (0, .ref xo), (3, .int x3)]) hx hb dX6_units_84 hl (k := 3) rfl (by rw [ex6_8]; rfl) (by decide) rfl (fun ls hl => ?_)
      refine lv_goto (tgt := 40) hx hb dX6_units_87 (by decide) ?_
      exact ih z0_82 x6_8 h ls (lv_sub hl [2, 3, 1, 0] rfl)
    clear ekJ82
    refine lv_if_le (tgt := 80) hx hb dX6_units_63 (by decide) (fun c9 => ?_) (fun c9 => ?_)
    · replace h := md_t c9 h
      refine lv_lload hx hb dX6_units_80 (lv_at hl 2 rfl) ?_
      exact KJ82 x4 h ls (lv_sub hl [0, 1, 3] rfl)
    replace h := md_f c9 h
    refine lv_lload hx hb dX6_units_66 (lv_at hl 2 rfl) ?_
    refine lv_aload_n hx hb dX6_units_68 rfl (lv_at hl 0 rfl) ?_
    refine va_get (D := D) (ci := 3) (v := .ref x_steps_a) (C := RX6) (T := TX6) (N := 5) hx hb hts wi_X6_units_X6 hown hK hP 0 rfl rfl 3 (by decide) (hts _ wm_X6_units_4) (fun _ h9 => h9) rfl dX6_units_69 ?_
    refine lv_iload hx hb dX6_units_72 (lv_at hl 3 rfl) ?_
    obtain ⟨hin10, h⟩ := md_g h
    refine va_iald hx hb hK hP 1 0 rfl rfl hin10 dX6_units_74 ?_
    refine lv_i2l hx hb dX6_units_75 rfl ?_
    obtain ⟨hz11, h⟩ := md_g h
    refine lv_ldiv hx hb dX6_units_76 hz11 ?_
    refine lv_goto (tgt := 82) hx hb dX6_units_77 (by decide) ?_
    exact KJ82 (x4 / (Int32.toInt64 (x_steps (Int32.toNatClampNeg x6)))) h ls (lv_sub hl [0, 1, 3] rfl)
def mX6_units (x_steps : Nat → Int32) (x_stepCount : Int32) (p1 : Int64) (p2 : Int32) : Option Int64 := (if p2 < 0 then (some (-1000000000000000001 : Int64)) else (if p2 ≤ x_stepCount then (if p1 < (0 : Int64) then (some (-1000000000000000002 : Int64)) else (if p1 < (167961600000000 : Int64) then (mlX6_units_40 p2 x_steps (fun (y4_90 : Int64) => (if x_stepCount ≤ p2 then (some y4_90) else (if (5 : Int32) ≤ p2 then (some y4_90) else (if p2 < 0 ∨ 5 ≤ (Int32.toNatClampNeg p2) then none else (if (x_steps (Int32.toNatClampNeg p2)) ≤ 0 then (some y4_90) else (if p2 < 0 ∨ 5 ≤ (Int32.toNatClampNeg p2) then none else (if (Int32.toInt64 (x_steps (Int32.toNatClampNeg p2))) = 0 then none else (some (y4_90 - y4_90 / (Int32.toInt64 (x_steps (Int32.toNatClampNeg p2))) * (Int32.toInt64 (x_steps (Int32.toNatClampNeg p2)))))))))))) kN p1 (0 : Int32)) else (some (-1000000000000000002 : Int64)))) else (some (-1000000000000000001 : Int64))))
set_option maxHeartbeats 4000000 in
set_option maxRecDepth 100000 in
theorem bX6_units {p : Program} {l : Launch} {e : Env} {s : State} {m : MethodId} {args : Array Value} {below : List Frame} {meth : Method} {c : Code} {Q : State → Prop} (C : kc p s m args meth c cX6_units 7 RX6 yX6_units.name wsX6_units (some .long)) {D : va_G} {cI cT : ClassId} {xo wo x_tablets_a so x_steps_a : Nat} (p1 : Int64) (p2 : Int32) (hK : va_K D vwCl (kTy cI cT) s) (x_steps : Nat → Int32) (x_stepCount : Int32) (hP : va_P D vwCl [(xo, .inr (3, [.ref wo, .ref x_tablets_a, .ref so, .ref x_steps_a, .int x_stepCount])), (x_steps_a, .inl (cI, 5, .inl x_steps))] s.heap) (res : Int64) (hQ : ∀ (v : Int64) (pc : Nat) (ls : Array Slot), some v = some res → decode cX6_units pc = .ok (.lreturn, 1) → W p l e rmX6_units s m args below meth c s.heap [] 0 0 Q (F0 m pc ls [.long v])) : mX6_units x_steps x_stepCount p1 p2 = some res → ∀ (ls : Array Slot), lv_has ls 7 [(0, .ref xo), (1, .long p1), (3, .int p2)] → W p l e rmX6_units s m args below meth c s.heap [] 0 0 Q (F0 m 0 ls []) := by
  intro h ls hl
  have C0 := C
  obtain ⟨hx, hb, hml, hown, hts, hr, hlk, hnm⟩ := C0
  rw [mX6_units] at h
  refine lv_iload_n hx hb dX6_units_0 rfl (lv_at hl 2 rfl) ?_
  refine lv_if_lt (tgt := 12) hx hb dX6_units_1 (by decide) (fun c1 => ?_) (fun c1 => ?_)
  · replace h := md_t c1 h
    refine lv_ldc2 hx hb hown (hts _ wm_X6_units_0) dX6_units_12 ?_
    exact hQ (-1000000000000000001 : Int64) 15 ls h dX6_units_15
  replace h := md_f c1 h
  refine lv_iload_n hx hb dX6_units_4 rfl (lv_at hl 2 rfl) ?_
  refine lv_aload_n hx hb dX6_units_5 rfl (lv_at hl 0 rfl) ?_
  refine va_get (D := D) (ci := 3) (v := .int x_stepCount) (C := RX6) (T := TX6) (N := 5) hx hb hts wi_X6_units_X6 hown hK hP 0 rfl rfl 4 (by decide) (hts _ wm_X6_units_1) (fun _ h9 => h9) rfl dX6_units_6 ?_
  refine lv_icmp_le (tgt := 16) hx hb dX6_units_9 (by decide) (fun c2 => ?_) (fun c2 => ?_)
  · replace h := md_t c2 h
    refine lv_lload_n hx hb dX6_units_16 rfl (lv_at hl 1 rfl) ?_
    refine lv_lconst (v := 0) hx hb dX6_units_17 (by decide) ?_
    refine W.lcmp hx hb dX6_units_18 ?_
    refine lv_if_lt (tgt := 30) hx hb dX6_units_19 (by decide) (fun c3 => ?_) (fun c3 => ?_)
    · replace c3 := (lg_cmp_lt _ _).mp c3
      replace h := md_t c3 h
      refine lv_ldc2 hx hb hown (hts _ wm_X6_units_2) dX6_units_30 ?_
      exact hQ (-1000000000000000002 : Int64) 33 ls h dX6_units_33
    replace c3 := fun q9 => c3 ((lg_cmp_lt _ _).mpr q9)
    replace h := md_f c3 h
    refine lv_lload_n hx hb dX6_units_22 rfl (lv_at hl 1 rfl) ?_
    refine lv_ldc2 hx hb hown (hts _ wm_X6_units_3) dX6_units_23 ?_
    refine W.lcmp hx hb dX6_units_26 ?_
    refine lv_if_lt (tgt := 34) hx hb dX6_units_27 (by decide) (fun c4 => ?_) (fun c4 => ?_)
    · replace c4 := (lg_cmp_lt _ _).mp c4
      replace h := md_t c4 h
      refine lv_lload_n hx hb dX6_units_34 rfl (lv_at hl 1 rfl) ?_
      refine lv_lstore (lv' := [(4, .long p1), (0, .ref xo), (1, .long p1), (3, .int p2)]) hx hb dX6_units_35 hl (by decide) rfl (fun ls hl => ?_)
      refine lv_iconst (v := 0) hx hb dX6_units_37 (by decide) ?_
      refine lv_istore (lv' := [(6, .int (0 : Int32)), (4, .long p1), (0, .ref xo), (1, .long p1), (3, .int p2)]) hx hb dX6_units_38 hl (by decide) rfl (fun ls hl => ?_)
      refine lX6_units_40 (xo := xo) (wo := wo) (x_tablets_a := x_tablets_a) (so := so) (x_steps_a := x_steps_a) C hK p2 x_steps x_stepCount hP res hQ _ (fun y4_90 h ls hl => ?_) kN p1 (0 : Int32) h ls (lv_sub hl [2, 4, 1, 0] rfl)
      refine lv_iload_n hx hb dX6_units_90 rfl (lv_at hl 1 rfl) ?_
      refine lv_aload_n hx hb dX6_units_91 rfl (lv_at hl 0 rfl) ?_
      refine va_get (D := D) (ci := 3) (v := .int x_stepCount) (C := RX6) (T := TX6) (N := 5) hx hb hts wi_X6_units_X6 hown hK hP 0 rfl rfl 4 (by decide) (hts _ wm_X6_units_1) (fun _ h9 => h9) rfl dX6_units_92 ?_
      refine lv_icmp_ge (tgt := 129) hx hb dX6_units_95 (by decide) (fun c12 => ?_) (fun c12 => ?_)
      · replace h := md_t c12 h
        refine lv_lload hx hb dX6_units_129 (lv_at hl 2 rfl) ?_
        exact hQ y4_90 131 ls h dX6_units_131
      replace h := md_f c12 h
      refine lv_iload_n hx hb dX6_units_98 rfl (lv_at hl 1 rfl) ?_
      refine lv_aload_n hx hb dX6_units_99 rfl (lv_at hl 0 rfl) ?_
      refine va_get (D := D) (ci := 3) (v := .ref x_steps_a) (C := RX6) (T := TX6) (N := 5) hx hb hts wi_X6_units_X6 hown hK hP 0 rfl rfl 3 (by decide) (hts _ wm_X6_units_4) (fun _ h9 => h9) rfl dX6_units_100 ?_
      refine va_alen hx hb hK hP 1 0 rfl rfl (v := 5) rfl dX6_units_103 ?_
      refine lv_icmp_ge (tgt := 129) hx hb dX6_units_104 (by decide) (fun c13 => ?_) (fun c13 => ?_)
      · replace h := md_t c13 h
        refine lv_lload hx hb dX6_units_129 (lv_at hl 2 rfl) ?_
        exact hQ y4_90 131 ls h dX6_units_131
      replace h := md_f c13 h
      refine lv_aload_n hx hb dX6_units_107 rfl (lv_at hl 0 rfl) ?_
      refine va_get (D := D) (ci := 3) (v := .ref x_steps_a) (C := RX6) (T := TX6) (N := 5) hx hb hts wi_X6_units_X6 hown hK hP 0 rfl rfl 3 (by decide) (hts _ wm_X6_units_4) (fun _ h9 => h9) rfl dX6_units_108 ?_
      refine lv_iload_n hx hb dX6_units_111 rfl (lv_at hl 1 rfl) ?_
      obtain ⟨hin14, h⟩ := md_g h
      refine va_iald hx hb hK hP 1 0 rfl rfl hin14 dX6_units_112 ?_
      refine lv_if_le (tgt := 129) hx hb dX6_units_113 (by decide) (fun c15 => ?_) (fun c15 => ?_)
      · replace h := md_t c15 h
        refine lv_lload hx hb dX6_units_129 (lv_at hl 2 rfl) ?_
        exact hQ y4_90 131 ls h dX6_units_131
      replace h := md_f c15 h
      refine lv_lload hx hb dX6_units_116 (lv_at hl 2 rfl) ?_
      refine lv_aload_n hx hb dX6_units_118 rfl (lv_at hl 0 rfl) ?_
      refine va_get (D := D) (ci := 3) (v := .ref x_steps_a) (C := RX6) (T := TX6) (N := 5) hx hb hts wi_X6_units_X6 hown hK hP 0 rfl rfl 3 (by decide) (hts _ wm_X6_units_4) (fun _ h9 => h9) rfl dX6_units_119 ?_
      refine lv_iload_n hx hb dX6_units_122 rfl (lv_at hl 1 rfl) ?_
      obtain ⟨hin16, h⟩ := md_g h
      refine va_iald hx hb hK hP 1 0 rfl rfl hin16 dX6_units_123 ?_
      refine lv_i2l hx hb dX6_units_124 rfl ?_
      obtain ⟨hz17, h⟩ := md_g h
      refine lv_lrem hx hb dX6_units_125 hz17 ?_
      refine lv_goto (tgt := 131) hx hb dX6_units_126 (by decide) ?_
      exact hQ (y4_90 - y4_90 / (Int32.toInt64 (x_steps (Int32.toNatClampNeg p2))) * (Int32.toInt64 (x_steps (Int32.toNatClampNeg p2)))) 131 ls h dX6_units_131
    replace c4 := fun q9 => c4 ((lg_cmp_lt _ _).mpr q9)
    replace h := md_f c4 h
    refine lv_ldc2 hx hb hown (hts _ wm_X6_units_2) dX6_units_30 ?_
    exact hQ (-1000000000000000002 : Int64) 33 ls h dX6_units_33
  replace h := md_f c2 h
  refine lv_ldc2 hx hb hown (hts _ wm_X6_units_0) dX6_units_12 ?_
  exact hQ (-1000000000000000001 : Int64) 15 ls h dX6_units_15
set_option maxHeartbeats 4000000 in
theorem ctX6_units (l : Launch) {D : va_G} {cI cT : ClassId} {xo wo x_tablets_a so x_steps_a : Nat} {x_steps : Nat → Int32} {x_stepCount : Int32} {p1 : Int64} {p2 : Int32} {res : Int64} (hm : mX6_units x_steps x_stepCount p1 p2 = some res) : Met l yX6_units wsX6_units rmX6_units (va_Pc [.ref xo, .long p1, .int p2] (kW D cI cT [(xo, .inr (3, [.ref wo, .ref x_tablets_a, .ref so, .ref x_steps_a, .int x_stepCount])), (x_steps_a, .inl (cI, 5, .inl x_steps))] none (fun _ => False))) (kR (.long res)) 0 0 (fun _ => False) :=
  km (by decide) rfl (Nat.le_of_ble_eq_true rfl) (fun p e s m below meth c ls C hB hl => bX6_units C p1 p2 hB.1 x_steps x_stepCount hB.2.1 res (fun v pc ls h hd => kr_l C h hd) hm ls hl)
theorem wm_X6_times_0 : Cond.constantLong RX6 105 (12960000) ∈ wsX6_times := by decide +kernel
theorem wm_X6_times_1 : Cond.fieldLink RX6 10 "SixtyTablet" "working" "LSixtyTablet$Working;" ∈ wsX6_times := by decide +kernel
theorem wi_X6_times_X6 : ∀ w ∈ wsX60, w ∈ wsX6_times := by decide +kernel
theorem kdvX6_times : yX6_times.cls = RX6 ∧ yX6_times.cls ≠ "java/lang/invoke/MethodHandle" ∧ yX6_times.cls ≠ "java/lang/invoke/VarHandle" ∧ (parseMethodDescriptor yX6_times.desc).map (fun d => d.parameters.length) = some 2 := by decide +kernel
abbrev rmX6_times : Room := { frames := 2, cells := 0, slots := 0, locals := 51 }
def mX6_times (w_ofX : Nat → Int32) (w_ofY : Nat → Int32) (w_places : Nat → Int32) (w_lines : Int32) (p1 : Int64) (p2 : Int64) : Option (Int32 × (Nat → Int32) × (Nat → Int32) × (Nat → Int32) × Int32) := (if p1 < (1 : Int64) then (some ((-2 : Int32), w_ofX, w_ofY, w_places, w_lines)) else (if (12960000 : Int64) ≤ p1 then (some ((-2 : Int32), w_ofX, w_ofY, w_places, w_lines)) else (if p2 < (1 : Int64) then (some ((-2 : Int32), w_ofX, w_ofY, w_places, w_lines)) else (if p2 < (12960000 : Int64) then (Option.bind (mX5_begin w_ofX w_ofY w_places p1 p2) (fun u5 => (Option.bind (mX5_lineCount u5.2.2.2) (fun u6 => (some (u6, u5.1, u5.2.1, u5.2.2.1, u5.2.2.2)))))) else (some ((-2 : Int32), w_ofX, w_ofY, w_places, w_lines))))))
set_option maxHeartbeats 4000000 in
set_option maxRecDepth 100000 in
theorem bX6_times {p : Program} {l : Launch} {e : Env} {s : State} {m : MethodId} {args : Array Value} {below : List Frame} {meth : Method} {c : Code} {Q : State → Prop} (C : kc p s m args meth c cX6_times 5 RX6 yX6_times.name wsX6_times (some .int)) {D : va_G} {cI cT : ClassId} {xo wo x_tablets_a so x_steps_a w_ofX_a w_ofY_a w_places_a : Nat} (p1 : Int64) (p2 : Int64) (hK : va_K D vwCl (kTy cI cT) s) (hnd : ([xo, wo, w_ofX_a, w_ofY_a, w_places_a] : List Nat).Nodup) (x_stepCount : Int32) (w_ofX : Nat → Int32) (w_ofY : Nat → Int32) (w_places : Nat → Int32) (w_lines : Int32) (res : (Int32 × (Nat → Int32) × (Nat → Int32) × (Nat → Int32) × Int32)) (hQ : ∀ (v : Int32) (w_ofX : Nat → Int32) (w_ofY : Nat → Int32) (w_places : Nat → Int32) (w_lines : Int32) (H : Heap) (locs : List Loc) (pc : Nat) (ls : Array Slot), some (v, w_ofX, w_ofY, w_places, w_lines) = some res → va_P D vwCl [(xo, .inr (3, [.ref wo, .ref x_tablets_a, .ref so, .ref x_steps_a, .int x_stepCount])), (wo, .inr (2, [.ref w_ofX_a, .ref w_ofY_a, .ref w_places_a, .int w_lines])), (w_ofX_a, .inl (cI, 16, .inl w_ofX)), (w_ofY_a, .inl (cI, 16, .inl w_ofY)), (w_places_a, .inl (cI, 16, .inl w_places))] H → va_S (fun q => q ∈ ([xo, wo, w_ofX_a, w_ofY_a, w_places_a] : List Nat)) s.heap H locs → decode cX6_times pc = .ok (.ireturn, 1) → W p l e rmX6_times s m args below meth c H locs 0 0 Q (F0 m pc ls [.int v])) : mX6_times w_ofX w_ofY w_places w_lines p1 p2 = some res → ∀ (H : Heap) (locs : List Loc), va_P D vwCl [(xo, .inr (3, [.ref wo, .ref x_tablets_a, .ref so, .ref x_steps_a, .int x_stepCount])), (wo, .inr (2, [.ref w_ofX_a, .ref w_ofY_a, .ref w_places_a, .int w_lines])), (w_ofX_a, .inl (cI, 16, .inl w_ofX)), (w_ofY_a, .inl (cI, 16, .inl w_ofY)), (w_places_a, .inl (cI, 16, .inl w_places))] H → va_S (fun q => q ∈ ([xo, wo, w_ofX_a, w_ofY_a, w_places_a] : List Nat)) s.heap H locs → ∀ (ls : Array Slot), lv_has ls 5 [(0, .ref xo), (1, .long p1), (3, .long p2)] → W p l e rmX6_times s m args below meth c H locs 0 0 Q (F0 m 0 ls []) := by
  intro h H locs hP hS ls hl
  have C0 := C
  obtain ⟨hx, hb, hml, hown, hts, hr, hlk, hnm⟩ := C0
  rw [mX6_times] at h
  refine lv_lload_n hx hb dX6_times_0 rfl (lv_at hl 1 rfl) ?_
  refine lv_lconst (v := 1) hx hb dX6_times_1 (by decide) ?_
  refine W.lcmp hx hb dX6_times_2 ?_
  refine lv_if_lt (tgt := 28) hx hb dX6_times_3 (by decide) (fun c1 => ?_) (fun c1 => ?_)
  · replace c1 := (lg_cmp_lt _ _).mp c1
    replace h := md_t c1 h
    refine lv_bipush (v := -2) hx hb dX6_times_28 (by decide) ?_
    exact hQ (-2 : Int32) w_ofX w_ofY w_places w_lines H locs 30 ls h hP hS dX6_times_30
  replace c1 := fun q9 => c1 ((lg_cmp_lt _ _).mpr q9)
  replace h := md_f c1 h
  refine lv_lload_n hx hb dX6_times_6 rfl (lv_at hl 1 rfl) ?_
  refine lv_ldc2 hx hb hown (hts _ wm_X6_times_0) dX6_times_7 ?_
  refine W.lcmp hx hb dX6_times_10 ?_
  refine lv_if_ge (tgt := 28) hx hb dX6_times_11 (by decide) (fun c2 => ?_) (fun c2 => ?_)
  · replace c2 := (lg_cmp_ge _ _).mp c2
    replace h := md_t c2 h
    refine lv_bipush (v := -2) hx hb dX6_times_28 (by decide) ?_
    exact hQ (-2 : Int32) w_ofX w_ofY w_places w_lines H locs 30 ls h hP hS dX6_times_30
  replace c2 := fun q9 => c2 ((lg_cmp_ge _ _).mpr q9)
  replace h := md_f c2 h
  refine lv_lload_n hx hb dX6_times_14 rfl (lv_at hl 2 rfl) ?_
  refine lv_lconst (v := 1) hx hb dX6_times_15 (by decide) ?_
  refine W.lcmp hx hb dX6_times_16 ?_
  refine lv_if_lt (tgt := 28) hx hb dX6_times_17 (by decide) (fun c3 => ?_) (fun c3 => ?_)
  · replace c3 := (lg_cmp_lt _ _).mp c3
    replace h := md_t c3 h
    refine lv_bipush (v := -2) hx hb dX6_times_28 (by decide) ?_
    exact hQ (-2 : Int32) w_ofX w_ofY w_places w_lines H locs 30 ls h hP hS dX6_times_30
  replace c3 := fun q9 => c3 ((lg_cmp_lt _ _).mpr q9)
  replace h := md_f c3 h
  refine lv_lload_n hx hb dX6_times_20 rfl (lv_at hl 2 rfl) ?_
  refine lv_ldc2 hx hb hown (hts _ wm_X6_times_0) dX6_times_21 ?_
  refine W.lcmp hx hb dX6_times_24 ?_
  refine lv_if_lt (tgt := 31) hx hb dX6_times_25 (by decide) (fun c4 => ?_) (fun c4 => ?_)
  · replace c4 := (lg_cmp_lt _ _).mp c4
    replace h := md_t c4 h
    refine lv_aload_n hx hb dX6_times_31 rfl (lv_at hl 0 rfl) ?_
    refine va_get (D := D) (ci := 3) (v := .ref wo) (C := RX6) (T := TX6) (N := 5) hx hb hts wi_X6_times_X6 hown hK hP 0 rfl rfl 0 (by decide) (hts _ wm_X6_times_1) (fun _ h9 => h9) rfl dX6_times_32 ?_
    refine lv_lload_n hx hb dX6_times_35 rfl (lv_at hl 1 rfl) ?_
    refine lv_lload_n hx hb dX6_times_36 rfl (lv_at hl 2 rfl) ?_
    obtain ⟨u5, hu5, h⟩ := md_b h
    refine kVx C (ctX5_begin l (nd_sub hnd [1, 2, 3, 4] (by decide) rfl) hu5) gX6_times_X5_begin rfl kdvX5_begin ⟨rfl, rfl⟩ ⟨by decide, by decide⟩ kW_blind (va_recv hK hP (ci := 2) (q0 := 1) rfl rfl) (kW_use hK (hP.sub (ws' := [(wo, .inr (2, [.ref w_ofX_a, .ref w_ofY_a, .ref w_places_a, .int w_lines])), (w_ofX_a, .inl (cI, 16, .inl w_ofX)), (w_ofY_a, .inl (cI, 16, .inl w_ofY)), (w_places_a, .inl (cI, 16, .inl w_places))]) [1, 2, 3, 4] rfl) kL_no) rfl hl [] rfl (Nat.le_of_ble_eq_true rfl) dX6_times_37 ⟨by decide, by decide⟩ hS (mem_sub [1, 2, 3, 4] rfl) (fun H1 locs hP1 hk1 hS => ?_)
    replace hP : va_P D vwCl [(xo, .inr (3, [.ref wo, .ref x_tablets_a, .ref so, .ref x_steps_a, .int x_stepCount])), (wo, .inr (2, [.ref w_ofX_a, .ref w_ofY_a, .ref w_places_a, .int u5.2.2.2])), (w_ofX_a, .inl (cI, 16, .inl u5.1)), (w_ofY_a, .inl (cI, 16, .inl u5.2.1)), (w_places_a, .inl (cI, 16, .inl u5.2.2.1))] H1 := kjoin hnd rfl hP hP1 hk1 [1, 2, 3, 4] rfl [(false, 0), (true, 0), (true, 1), (true, 2), (true, 3)] rfl rfl
    clear hP1 hk1
    generalize H1 = H at hP hS ⊢
    refine lv_aload_n hx hb dX6_times_40 rfl (lv_at hl 0 rfl) ?_
    refine va_get (D := D) (ci := 3) (v := .ref wo) (C := RX6) (T := TX6) (N := 5) hx hb hts wi_X6_times_X6 hown hK hP 0 rfl rfl 0 (by decide) (hts _ wm_X6_times_1) (fun _ h9 => h9) rfl dX6_times_41 ?_
    obtain ⟨u6, hu6, h⟩ := md_b h
    refine kV C (ctX5_lineCount l  hu6) gX6_times_X5_lineCount rfl kdvX5_lineCount ⟨rfl, rfl⟩ ⟨by decide, by decide⟩ kW_blind (va_recv hK hP (ci := 2) (q0 := 1) rfl rfl) (kW_use hK (hP.sub (ws' := [(wo, .inr (2, [.ref w_ofX_a, .ref w_ofY_a, .ref w_places_a, .int u5.2.2.2])), (w_ofX_a, .inl (cI, 16, .inl u5.1)), (w_ofY_a, .inl (cI, 16, .inl u5.2.1)), (w_places_a, .inl (cI, 16, .inl u5.2.2.1))]) [1, 2, 3, 4] rfl) kL_no) rfl hl [] rfl (Nat.le_of_ble_eq_true rfl) dX6_times_44 ⟨by decide, by decide⟩ ?_
    exact hQ u6 u5.1 u5.2.1 u5.2.2.1 u5.2.2.2 H locs 47 ls h hP hS dX6_times_47
  replace c4 := fun q9 => c4 ((lg_cmp_lt _ _).mpr q9)
  replace h := md_f c4 h
  refine lv_bipush (v := -2) hx hb dX6_times_28 (by decide) ?_
  exact hQ (-2 : Int32) w_ofX w_ofY w_places w_lines H locs 30 ls h hP hS dX6_times_30
set_option maxHeartbeats 4000000 in
theorem ctX6_times (l : Launch) {D : va_G} {cI cT : ClassId} {xo wo x_tablets_a so x_steps_a w_ofX_a w_ofY_a w_places_a : Nat} {x_stepCount : Int32} {w_ofX : Nat → Int32} {w_ofY : Nat → Int32} {w_places : Nat → Int32} {w_lines : Int32} {p1 : Int64} {p2 : Int64} {res : (Int32 × (Nat → Int32) × (Nat → Int32) × (Nat → Int32) × Int32)} (hnd : ([xo, wo, w_ofX_a, w_ofY_a, w_places_a] : List Nat).Nodup) (hm : mX6_times w_ofX w_ofY w_places w_lines p1 p2 = some res) : Met l yX6_times wsX6_times rmX6_times (va_Pc [.ref xo, .long p1, .long p2] (kW D cI cT [(xo, .inr (3, [.ref wo, .ref x_tablets_a, .ref so, .ref x_steps_a, .int x_stepCount])), (wo, .inr (2, [.ref w_ofX_a, .ref w_ofY_a, .ref w_places_a, .int w_lines])), (w_ofX_a, .inl (cI, 16, .inl w_ofX)), (w_ofY_a, .inl (cI, 16, .inl w_ofY)), (w_places_a, .inl (cI, 16, .inl w_places))] none (fun q => q ∈ ([xo, wo, w_ofX_a, w_ofY_a, w_places_a] : List Nat)))) (kX (some (.int res.1)) D [(xo, .inr (3, [.ref wo, .ref x_tablets_a, .ref so, .ref x_steps_a, .int x_stepCount])), (wo, .inr (2, [.ref w_ofX_a, .ref w_ofY_a, .ref w_places_a, .int res.2.2.2.2])), (w_ofX_a, .inl (cI, 16, .inl res.2.1)), (w_ofY_a, .inl (cI, 16, .inl res.2.2.1)), (w_places_a, .inl (cI, 16, .inl res.2.2.2.1))] (fun q => q ∈ ([xo, wo, w_ofX_a, w_ofY_a, w_places_a] : List Nat))) 0 0 (fun q => q ∈ ([xo, wo, w_ofX_a, w_ofY_a, w_places_a] : List Nat)) :=
  km (by decide) rfl (Nat.le_of_ble_eq_true rfl) (fun p e s m below meth c ls C hB hl => bX6_times C p1 p2 hB.1 hnd x_stepCount w_ofX w_ofY w_places w_lines res (fun v w_ofX1 w_ofY1 w_places1 w_lines1 H locs pc ls h hP hS hd => by obtain rfl := Option.some.inj h; exact kx_i C hP hS hd) hm s.heap [] hB.2.1 va_S.rf ls hl)
theorem wm_X6_line_0 : Cond.fieldLink RX6 10 "SixtyTablet" "working" "LSixtyTablet$Working;" ∈ wsX6_line := by decide +kernel
theorem wi_X6_line_X6 : ∀ w ∈ wsX60, w ∈ wsX6_line := by decide +kernel
theorem kdvX6_line : yX6_line.cls = RX6 ∧ yX6_line.cls ≠ "java/lang/invoke/MethodHandle" ∧ yX6_line.cls ≠ "java/lang/invoke/VarHandle" ∧ (parseMethodDescriptor yX6_line.desc).map (fun d => d.parameters.length) = some 2 := by decide +kernel
abbrev rmX6_line : Room := { frames := 3, cells := 0, slots := 0, locals := 63 }
def mX6_line (w_ofX : Nat → Int32) (w_ofY : Nat → Int32) (w_places : Nat → Int32) (w_lines : Int32) (p1 : Int32) (p2 : Int32) : Option Int32 := (Option.bind (mX5_hasLine w_lines p1) (fun u1 => (if u1 = 0 then (some (-1 : Int32)) else (if p2 = (0 : Int32) then (Option.bind (mX5_product w_ofX w_ofY w_lines p1) (fun u4 => (some u4))) else (if p2 = (1 : Int32) then (Option.bind (mX5_place w_places w_lines p1) (fun u6 => (some u6))) else (if p2 = (2 : Int32) then (Option.bind (mX5_digitOfX w_ofX w_lines p1) (fun u8 => (some u8))) else (if p2 = (3 : Int32) then (Option.bind (mX5_digitOfY w_ofY w_lines p1) (fun u10 => (some u10))) else (some (-2 : Int32)))))))))
set_option maxHeartbeats 4000000 in
set_option maxRecDepth 100000 in
theorem bX6_line {p : Program} {l : Launch} {e : Env} {s : State} {m : MethodId} {args : Array Value} {below : List Frame} {meth : Method} {c : Code} {Q : State → Prop} (C : kc p s m args meth c cX6_line 3 RX6 yX6_line.name wsX6_line (some .int)) {D : va_G} {cI cT : ClassId} {xo wo x_tablets_a so x_steps_a w_ofX_a w_ofY_a w_places_a : Nat} (p1 : Int32) (p2 : Int32) (hK : va_K D vwCl (kTy cI cT) s) (x_stepCount : Int32) (w_ofX : Nat → Int32) (w_ofY : Nat → Int32) (w_places : Nat → Int32) (w_lines : Int32) (hP : va_P D vwCl [(xo, .inr (3, [.ref wo, .ref x_tablets_a, .ref so, .ref x_steps_a, .int x_stepCount])), (wo, .inr (2, [.ref w_ofX_a, .ref w_ofY_a, .ref w_places_a, .int w_lines])), (w_ofX_a, .inl (cI, 16, .inl w_ofX)), (w_ofY_a, .inl (cI, 16, .inl w_ofY)), (w_places_a, .inl (cI, 16, .inl w_places))] s.heap) (res : Int32) (hQ : ∀ (v : Int32) (pc : Nat) (ls : Array Slot), some v = some res → decode cX6_line pc = .ok (.ireturn, 1) → W p l e rmX6_line s m args below meth c s.heap [] 0 0 Q (F0 m pc ls [.int v])) : mX6_line w_ofX w_ofY w_places w_lines p1 p2 = some res → ∀ (ls : Array Slot), lv_has ls 3 [(0, .ref xo), (1, .int p1), (2, .int p2)] → W p l e rmX6_line s m args below meth c s.heap [] 0 0 Q (F0 m 0 ls []) := by
  intro h ls hl
  have C0 := C
  obtain ⟨hx, hb, hml, hown, hts, hr, hlk, hnm⟩ := C0
  rw [mX6_line] at h
  refine lv_aload_n hx hb dX6_line_0 rfl (lv_at hl 0 rfl) ?_
  refine va_get (D := D) (ci := 3) (v := .ref wo) (C := RX6) (T := TX6) (N := 5) hx hb hts wi_X6_line_X6 hown hK hP 0 rfl rfl 0 (by decide) (hts _ wm_X6_line_0) (fun _ h9 => h9) rfl dX6_line_1 ?_
  refine lv_iload_n hx hb dX6_line_4 rfl (lv_at hl 1 rfl) ?_
  obtain ⟨u1, hu1, h⟩ := md_b h
  refine kV C (ctX5_hasLine l  hu1) gX6_line_X5_hasLine rfl kdvX5_hasLine ⟨rfl, rfl⟩ ⟨by decide, by decide⟩ kW_blind (va_recv hK hP (ci := 2) (q0 := 1) rfl rfl) (kW_use hK (hP.sub (ws' := [(wo, .inr (2, [.ref w_ofX_a, .ref w_ofY_a, .ref w_places_a, .int w_lines])), (w_ofX_a, .inl (cI, 16, .inl w_ofX)), (w_ofY_a, .inl (cI, 16, .inl w_ofY)), (w_places_a, .inl (cI, 16, .inl w_places))]) [1, 2, 3, 4] rfl) kL_no) rfl hl [] rfl (Nat.le_of_ble_eq_true rfl) dX6_line_5 ⟨by decide, by decide⟩ ?_
  refine lv_if_ne (tgt := 13) hx hb dX6_line_8 (by decide) (fun c2 => ?_) (fun c2 => ?_)
  · replace h := md_f c2 h
    refine lv_iload_n hx hb dX6_line_13 rfl (lv_at hl 2 rfl) ?_
    by_cases c3 : p2 = (0 : Int32)
    · replace h := md_t c3 h
      refine lv_tableIn (tgt := 44) hx hb dX6_line_14 (by rw [c3]; decide) (by rw [c3]; decide) (by rw [c3]; rfl) (by decide) ?_
      refine lv_aload_n hx hb dX6_line_44 rfl (lv_at hl 0 rfl) ?_
      refine va_get (D := D) (ci := 3) (v := .ref wo) (C := RX6) (T := TX6) (N := 5) hx hb hts wi_X6_line_X6 hown hK hP 0 rfl rfl 0 (by decide) (hts _ wm_X6_line_0) (fun _ h9 => h9) rfl dX6_line_45 ?_
      refine lv_iload_n hx hb dX6_line_48 rfl (lv_at hl 1 rfl) ?_
      obtain ⟨u4, hu4, h⟩ := md_b h
      refine kV C (ctX5_product l  hu4) gX6_line_X5_product rfl kdvX5_product ⟨rfl, rfl⟩ ⟨by decide, by decide⟩ kW_blind (va_recv hK hP (ci := 2) (q0 := 1) rfl rfl) (kW_use hK (hP.sub (ws' := [(wo, .inr (2, [.ref w_ofX_a, .ref w_ofY_a, .ref w_places_a, .int w_lines])), (w_ofX_a, .inl (cI, 16, .inl w_ofX)), (w_ofY_a, .inl (cI, 16, .inl w_ofY)), (w_places_a, .inl (cI, 16, .inl w_places))]) [1, 2, 3, 4] rfl) kL_no) rfl hl [] rfl (Nat.le_of_ble_eq_true rfl) dX6_line_49 ⟨by decide, by decide⟩ ?_
      exact hQ u4 52 ls h dX6_line_52
    replace h := md_f c3 h
    by_cases c5 : p2 = (1 : Int32)
    · replace h := md_t c5 h
      refine lv_tableIn (tgt := 53) hx hb dX6_line_14 (by rw [c5]; decide) (by rw [c5]; decide) (by rw [c5]; rfl) (by decide) ?_
      refine lv_aload_n hx hb dX6_line_53 rfl (lv_at hl 0 rfl) ?_
      refine va_get (D := D) (ci := 3) (v := .ref wo) (C := RX6) (T := TX6) (N := 5) hx hb hts wi_X6_line_X6 hown hK hP 0 rfl rfl 0 (by decide) (hts _ wm_X6_line_0) (fun _ h9 => h9) rfl dX6_line_54 ?_
      refine lv_iload_n hx hb dX6_line_57 rfl (lv_at hl 1 rfl) ?_
      obtain ⟨u6, hu6, h⟩ := md_b h
      refine kV C (ctX5_place l  hu6) gX6_line_X5_place rfl kdvX5_place ⟨rfl, rfl⟩ ⟨by decide, by decide⟩ kW_blind (va_recv hK hP (ci := 2) (q0 := 1) rfl rfl) (kW_use hK (hP.sub (ws' := [(wo, .inr (2, [.ref w_ofX_a, .ref w_ofY_a, .ref w_places_a, .int w_lines])), (w_ofX_a, .inl (cI, 16, .inl w_ofX)), (w_ofY_a, .inl (cI, 16, .inl w_ofY)), (w_places_a, .inl (cI, 16, .inl w_places))]) [1, 2, 3, 4] rfl) kL_no) rfl hl [] rfl (Nat.le_of_ble_eq_true rfl) dX6_line_58 ⟨by decide, by decide⟩ ?_
      exact hQ u6 61 ls h dX6_line_61
    replace h := md_f c5 h
    by_cases c7 : p2 = (2 : Int32)
    · replace h := md_t c7 h
      refine lv_tableIn (tgt := 62) hx hb dX6_line_14 (by rw [c7]; decide) (by rw [c7]; decide) (by rw [c7]; rfl) (by decide) ?_
      refine lv_aload_n hx hb dX6_line_62 rfl (lv_at hl 0 rfl) ?_
      refine va_get (D := D) (ci := 3) (v := .ref wo) (C := RX6) (T := TX6) (N := 5) hx hb hts wi_X6_line_X6 hown hK hP 0 rfl rfl 0 (by decide) (hts _ wm_X6_line_0) (fun _ h9 => h9) rfl dX6_line_63 ?_
      refine lv_iload_n hx hb dX6_line_66 rfl (lv_at hl 1 rfl) ?_
      obtain ⟨u8, hu8, h⟩ := md_b h
      refine kV C (ctX5_digitOfX l  hu8) gX6_line_X5_digitOfX rfl kdvX5_digitOfX ⟨rfl, rfl⟩ ⟨by decide, by decide⟩ kW_blind (va_recv hK hP (ci := 2) (q0 := 1) rfl rfl) (kW_use hK (hP.sub (ws' := [(wo, .inr (2, [.ref w_ofX_a, .ref w_ofY_a, .ref w_places_a, .int w_lines])), (w_ofX_a, .inl (cI, 16, .inl w_ofX)), (w_ofY_a, .inl (cI, 16, .inl w_ofY)), (w_places_a, .inl (cI, 16, .inl w_places))]) [1, 2, 3, 4] rfl) kL_no) rfl hl [] rfl (Nat.le_of_ble_eq_true rfl) dX6_line_67 ⟨by decide, by decide⟩ ?_
      exact hQ u8 70 ls h dX6_line_70
    replace h := md_f c7 h
    by_cases c9 : p2 = (3 : Int32)
    · replace h := md_t c9 h
      refine lv_tableIn (tgt := 71) hx hb dX6_line_14 (by rw [c9]; decide) (by rw [c9]; decide) (by rw [c9]; rfl) (by decide) ?_
      refine lv_aload_n hx hb dX6_line_71 rfl (lv_at hl 0 rfl) ?_
      refine va_get (D := D) (ci := 3) (v := .ref wo) (C := RX6) (T := TX6) (N := 5) hx hb hts wi_X6_line_X6 hown hK hP 0 rfl rfl 0 (by decide) (hts _ wm_X6_line_0) (fun _ h9 => h9) rfl dX6_line_72 ?_
      refine lv_iload_n hx hb dX6_line_75 rfl (lv_at hl 1 rfl) ?_
      obtain ⟨u10, hu10, h⟩ := md_b h
      refine kV C (ctX5_digitOfY l  hu10) gX6_line_X5_digitOfY rfl kdvX5_digitOfY ⟨rfl, rfl⟩ ⟨by decide, by decide⟩ kW_blind (va_recv hK hP (ci := 2) (q0 := 1) rfl rfl) (kW_use hK (hP.sub (ws' := [(wo, .inr (2, [.ref w_ofX_a, .ref w_ofY_a, .ref w_places_a, .int w_lines])), (w_ofX_a, .inl (cI, 16, .inl w_ofX)), (w_ofY_a, .inl (cI, 16, .inl w_ofY)), (w_places_a, .inl (cI, 16, .inl w_places))]) [1, 2, 3, 4] rfl) kL_no) rfl hl [] rfl (Nat.le_of_ble_eq_true rfl) dX6_line_76 ⟨by decide, by decide⟩ ?_
      exact hQ u10 79 ls h dX6_line_79
    replace h := md_f c9 h
    have tc3 := lv_neT (a := 0) c3 (by decide)
    have tc5 := lv_neT (a := 1) c5 (by decide)
    have tc7 := lv_neT (a := 2) c7 (by decide)
    have tc9 := lv_neT (a := 3) c9 (by decide)
    refine lv_tableOut (tgt := 80) hx hb dX6_line_14 (by omega) (by decide) ?_
    refine lv_bipush (v := -2) hx hb dX6_line_80 (by decide) ?_
    exact hQ (-2 : Int32) 82 ls h dX6_line_82
  replace h := md_t c2 h
  refine lv_iconst (v := -1) hx hb dX6_line_11 (by decide) ?_
  exact hQ (-1 : Int32) 12 ls h dX6_line_12
set_option maxHeartbeats 4000000 in
theorem ctX6_line (l : Launch) {D : va_G} {cI cT : ClassId} {xo wo x_tablets_a so x_steps_a w_ofX_a w_ofY_a w_places_a : Nat} {x_stepCount : Int32} {w_ofX : Nat → Int32} {w_ofY : Nat → Int32} {w_places : Nat → Int32} {w_lines : Int32} {p1 : Int32} {p2 : Int32} {res : Int32} (hm : mX6_line w_ofX w_ofY w_places w_lines p1 p2 = some res) : Met l yX6_line wsX6_line rmX6_line (va_Pc [.ref xo, .int p1, .int p2] (kW D cI cT [(xo, .inr (3, [.ref wo, .ref x_tablets_a, .ref so, .ref x_steps_a, .int x_stepCount])), (wo, .inr (2, [.ref w_ofX_a, .ref w_ofY_a, .ref w_places_a, .int w_lines])), (w_ofX_a, .inl (cI, 16, .inl w_ofX)), (w_ofY_a, .inl (cI, 16, .inl w_ofY)), (w_places_a, .inl (cI, 16, .inl w_places))] none (fun _ => False))) (kR (.int res)) 0 0 (fun _ => False) :=
  km (by decide) rfl (Nat.le_of_ble_eq_true rfl) (fun p e s m below meth c ls C hB hl => bX6_line C p1 p2 hB.1 x_stepCount w_ofX w_ofY w_places w_lines hB.2.1 res (fun v pc ls h hd => kr_i C h hd) hm ls hl)
theorem wm_X6_sum_0 : Cond.fieldLink RX6 10 "SixtyTablet" "working" "LSixtyTablet$Working;" ∈ wsX6_sum := by decide +kernel
theorem wm_X6_sum_1 : Cond.constantLong RX6 134 (-1000000000000000001) ∈ wsX6_sum := by decide +kernel
theorem wi_X6_sum_X6 : ∀ w ∈ wsX60, w ∈ wsX6_sum := by decide +kernel
theorem kdvX6_sum : yX6_sum.cls = RX6 ∧ yX6_sum.cls ≠ "java/lang/invoke/MethodHandle" ∧ yX6_sum.cls ≠ "java/lang/invoke/VarHandle" ∧ (parseMethodDescriptor yX6_sum.desc).map (fun d => d.parameters.length) = some 1 := by decide +kernel
abbrev rmX6_sum : Room := { frames := 5, cells := 0, slots := 0, locals := 108 }
def mX6_sum (w_ofX : Nat → Int32) (w_ofY : Nat → Int32) (w_places : Nat → Int32) (w_lines : Int32) (p1 : Int32) : Option Int64 := (Option.bind (mX5_hasLine w_lines p1) (fun u1 => (if u1 = 0 then (some (-1000000000000000001 : Int64)) else (Option.bind (mX5_sumUpTo w_ofX w_ofY w_places w_lines p1) (fun u3 => (some u3))))))
set_option maxHeartbeats 4000000 in
set_option maxRecDepth 100000 in
theorem bX6_sum {p : Program} {l : Launch} {e : Env} {s : State} {m : MethodId} {args : Array Value} {below : List Frame} {meth : Method} {c : Code} {Q : State → Prop} (C : kc p s m args meth c cX6_sum 2 RX6 yX6_sum.name wsX6_sum (some .long)) {D : va_G} {cI cT : ClassId} {xo wo x_tablets_a so x_steps_a w_ofX_a w_ofY_a w_places_a : Nat} (p1 : Int32) (hK : va_K D vwCl (kTy cI cT) s) (x_stepCount : Int32) (w_ofX : Nat → Int32) (w_ofY : Nat → Int32) (w_places : Nat → Int32) (w_lines : Int32) (hP : va_P D vwCl [(xo, .inr (3, [.ref wo, .ref x_tablets_a, .ref so, .ref x_steps_a, .int x_stepCount])), (wo, .inr (2, [.ref w_ofX_a, .ref w_ofY_a, .ref w_places_a, .int w_lines])), (w_ofX_a, .inl (cI, 16, .inl w_ofX)), (w_ofY_a, .inl (cI, 16, .inl w_ofY)), (w_places_a, .inl (cI, 16, .inl w_places))] s.heap) (res : Int64) (hQ : ∀ (v : Int64) (pc : Nat) (ls : Array Slot), some v = some res → decode cX6_sum pc = .ok (.lreturn, 1) → W p l e rmX6_sum s m args below meth c s.heap [] 0 0 Q (F0 m pc ls [.long v])) : mX6_sum w_ofX w_ofY w_places w_lines p1 = some res → ∀ (ls : Array Slot), lv_has ls 2 [(0, .ref xo), (1, .int p1)] → W p l e rmX6_sum s m args below meth c s.heap [] 0 0 Q (F0 m 0 ls []) := by
  intro h ls hl
  have C0 := C
  obtain ⟨hx, hb, hml, hown, hts, hr, hlk, hnm⟩ := C0
  rw [mX6_sum] at h
  refine lv_aload_n hx hb dX6_sum_0 rfl (lv_at hl 0 rfl) ?_
  refine va_get (D := D) (ci := 3) (v := .ref wo) (C := RX6) (T := TX6) (N := 5) hx hb hts wi_X6_sum_X6 hown hK hP 0 rfl rfl 0 (by decide) (hts _ wm_X6_sum_0) (fun _ h9 => h9) rfl dX6_sum_1 ?_
  refine lv_iload_n hx hb dX6_sum_4 rfl (lv_at hl 1 rfl) ?_
  obtain ⟨u1, hu1, h⟩ := md_b h
  refine kV C (ctX5_hasLine l  hu1) gX6_sum_X5_hasLine rfl kdvX5_hasLine ⟨rfl, rfl⟩ ⟨by decide, by decide⟩ kW_blind (va_recv hK hP (ci := 2) (q0 := 1) rfl rfl) (kW_use hK (hP.sub (ws' := [(wo, .inr (2, [.ref w_ofX_a, .ref w_ofY_a, .ref w_places_a, .int w_lines])), (w_ofX_a, .inl (cI, 16, .inl w_ofX)), (w_ofY_a, .inl (cI, 16, .inl w_ofY)), (w_places_a, .inl (cI, 16, .inl w_places))]) [1, 2, 3, 4] rfl) kL_no) rfl hl [] rfl (Nat.le_of_ble_eq_true rfl) dX6_sum_5 ⟨by decide, by decide⟩ ?_
  refine lv_if_eq (tgt := 22) hx hb dX6_sum_8 (by decide) (fun c2 => ?_) (fun c2 => ?_)
  · replace h := md_t c2 h
    refine lv_ldc2 hx hb hown (hts _ wm_X6_sum_1) dX6_sum_22 ?_
    exact hQ (-1000000000000000001 : Int64) 25 ls h dX6_sum_25
  replace h := md_f c2 h
  refine lv_aload_n hx hb dX6_sum_11 rfl (lv_at hl 0 rfl) ?_
  refine va_get (D := D) (ci := 3) (v := .ref wo) (C := RX6) (T := TX6) (N := 5) hx hb hts wi_X6_sum_X6 hown hK hP 0 rfl rfl 0 (by decide) (hts _ wm_X6_sum_0) (fun _ h9 => h9) rfl dX6_sum_12 ?_
  refine lv_iload_n hx hb dX6_sum_15 rfl (lv_at hl 1 rfl) ?_
  obtain ⟨u3, hu3, h⟩ := md_b h
  refine kV C (ctX5_sumUpTo l  hu3) gX6_sum_X5_sumUpTo rfl kdvX5_sumUpTo ⟨rfl, rfl⟩ ⟨by decide, by decide⟩ kW_blind (va_recv hK hP (ci := 2) (q0 := 1) rfl rfl) (kW_use hK (hP.sub (ws' := [(wo, .inr (2, [.ref w_ofX_a, .ref w_ofY_a, .ref w_places_a, .int w_lines])), (w_ofX_a, .inl (cI, 16, .inl w_ofX)), (w_ofY_a, .inl (cI, 16, .inl w_ofY)), (w_places_a, .inl (cI, 16, .inl w_places))]) [1, 2, 3, 4] rfl) kL_no) rfl hl [] rfl (Nat.le_of_ble_eq_true rfl) dX6_sum_16 ⟨by decide, by decide⟩ ?_
  refine lv_goto (tgt := 25) hx hb dX6_sum_19 (by decide) ?_
  exact hQ u3 25 ls h dX6_sum_25
set_option maxHeartbeats 4000000 in
theorem ctX6_sum (l : Launch) {D : va_G} {cI cT : ClassId} {xo wo x_tablets_a so x_steps_a w_ofX_a w_ofY_a w_places_a : Nat} {x_stepCount : Int32} {w_ofX : Nat → Int32} {w_ofY : Nat → Int32} {w_places : Nat → Int32} {w_lines : Int32} {p1 : Int32} {res : Int64} (hm : mX6_sum w_ofX w_ofY w_places w_lines p1 = some res) : Met l yX6_sum wsX6_sum rmX6_sum (va_Pc [.ref xo, .int p1] (kW D cI cT [(xo, .inr (3, [.ref wo, .ref x_tablets_a, .ref so, .ref x_steps_a, .int x_stepCount])), (wo, .inr (2, [.ref w_ofX_a, .ref w_ofY_a, .ref w_places_a, .int w_lines])), (w_ofX_a, .inl (cI, 16, .inl w_ofX)), (w_ofY_a, .inl (cI, 16, .inl w_ofY)), (w_places_a, .inl (cI, 16, .inl w_places))] none (fun _ => False))) (kR (.long res)) 0 0 (fun _ => False) :=
  km (by decide) rfl (Nat.le_of_ble_eq_true rfl) (fun p e s m below meth c ls C hB hl => bX6_sum C p1 hB.1 x_stepCount w_ofX w_ofY w_places w_lines hB.2.1 res (fun v pc ls h hd => kr_l C h hd) hm ls hl)
theorem wm_X6_slip_0 : Cond.fieldLink RX6 10 "SixtyTablet" "working" "LSixtyTablet$Working;" ∈ wsX6_slip := by decide +kernel
theorem wm_X6_slip_1 : Cond.constantLong RX6 134 (-1000000000000000001) ∈ wsX6_slip := by decide +kernel
theorem wm_X6_slip_2 : Cond.constantLong RX6 48 (-1000000000000000002) ∈ wsX6_slip := by decide +kernel
theorem wm_X6_slip_3 : Cond.constantLong RX6 140 (-1) ∈ wsX6_slip := by decide +kernel
theorem wm_X6_slip_4 : Cond.constantLong RX6 85 (-1000000000000000005) ∈ wsX6_slip := by decide +kernel
theorem wi_X6_slip_X6 : ∀ w ∈ wsX60, w ∈ wsX6_slip := by decide +kernel
theorem kdvX6_slip : yX6_slip.cls = RX6 ∧ yX6_slip.cls ≠ "java/lang/invoke/MethodHandle" ∧ yX6_slip.cls ≠ "java/lang/invoke/VarHandle" ∧ (parseMethodDescriptor yX6_slip.desc).map (fun d => d.parameters.length) = some 4 := by decide +kernel
abbrev rmX6_slip : Room := { frames := 5, cells := 0, slots := 0, locals := 111 }
def mX6_slip (w_ofX : Nat → Int32) (w_ofY : Nat → Int32) (w_places : Nat → Int32) (w_lines : Int32) (p1 : Int32) (p2 : Int32) (p3 : Int32) (p4 : Int32) : Option Int64 := (Option.bind (mX5_hasLine w_lines p1) (fun u1 => (if u1 = 0 then (some (-1000000000000000001 : Int64)) else (Option.bind (mX5_hasLine w_lines p4) (fun u3 => (if u3 = 0 then (some (-1000000000000000001 : Int64)) else (if p2 < 0 then (some (-1000000000000000002 : Int64)) else (if (4 : Int32) ≤ p2 then (some (-1000000000000000002 : Int64)) else (if p3 < 0 then (some (-1000000000000000002 : Int64)) else (if p3 < (2 : Int32) then (Option.bind (mX5_slipped w_ofX w_ofY w_places w_lines p1 p2 p3) (fun u9 => (if u9 = (-1 : Int64) then (some (-1000000000000000005 : Int64)) else (Option.bind (mX5_sumUpTo w_ofX w_ofY w_places w_lines p4) (fun u11 => (if p1 ≤ p4 then (Option.bind (mX5_worth w_ofX w_ofY w_places w_lines p1) (fun u13 => (some ((u11 - u13) + u9)))) else (some u11))))))) else (some (-1000000000000000002 : Int64))))))))))))
set_option maxHeartbeats 4000000 in
set_option maxRecDepth 100000 in
theorem bX6_slip {p : Program} {l : Launch} {e : Env} {s : State} {m : MethodId} {args : Array Value} {below : List Frame} {meth : Method} {c : Code} {Q : State → Prop} (C : kc p s m args meth c cX6_slip 9 RX6 yX6_slip.name wsX6_slip (some .long)) {D : va_G} {cI cT : ClassId} {xo wo x_tablets_a so x_steps_a w_ofX_a w_ofY_a w_places_a : Nat} (p1 : Int32) (p2 : Int32) (p3 : Int32) (p4 : Int32) (hK : va_K D vwCl (kTy cI cT) s) (x_stepCount : Int32) (w_ofX : Nat → Int32) (w_ofY : Nat → Int32) (w_places : Nat → Int32) (w_lines : Int32) (hP : va_P D vwCl [(xo, .inr (3, [.ref wo, .ref x_tablets_a, .ref so, .ref x_steps_a, .int x_stepCount])), (wo, .inr (2, [.ref w_ofX_a, .ref w_ofY_a, .ref w_places_a, .int w_lines])), (w_ofX_a, .inl (cI, 16, .inl w_ofX)), (w_ofY_a, .inl (cI, 16, .inl w_ofY)), (w_places_a, .inl (cI, 16, .inl w_places))] s.heap) (res : Int64) (hQ : ∀ (v : Int64) (pc : Nat) (ls : Array Slot), some v = some res → decode cX6_slip pc = .ok (.lreturn, 1) → W p l e rmX6_slip s m args below meth c s.heap [] 0 0 Q (F0 m pc ls [.long v])) : mX6_slip w_ofX w_ofY w_places w_lines p1 p2 p3 p4 = some res → ∀ (ls : Array Slot), lv_has ls 9 [(0, .ref xo), (1, .int p1), (2, .int p2), (3, .int p3), (4, .int p4)] → W p l e rmX6_slip s m args below meth c s.heap [] 0 0 Q (F0 m 0 ls []) := by
  intro h ls hl
  have C0 := C
  obtain ⟨hx, hb, hml, hown, hts, hr, hlk, hnm⟩ := C0
  rw [mX6_slip] at h
  refine lv_aload_n hx hb dX6_slip_0 rfl (lv_at hl 0 rfl) ?_
  refine va_get (D := D) (ci := 3) (v := .ref wo) (C := RX6) (T := TX6) (N := 5) hx hb hts wi_X6_slip_X6 hown hK hP 0 rfl rfl 0 (by decide) (hts _ wm_X6_slip_0) (fun _ h9 => h9) rfl dX6_slip_1 ?_
  refine lv_iload_n hx hb dX6_slip_4 rfl (lv_at hl 1 rfl) ?_
  obtain ⟨u1, hu1, h⟩ := md_b h
  refine kV C (ctX5_hasLine l  hu1) gX6_slip_X5_hasLine rfl kdvX5_hasLine ⟨rfl, rfl⟩ ⟨by decide, by decide⟩ kW_blind (va_recv hK hP (ci := 2) (q0 := 1) rfl rfl) (kW_use hK (hP.sub (ws' := [(wo, .inr (2, [.ref w_ofX_a, .ref w_ofY_a, .ref w_places_a, .int w_lines])), (w_ofX_a, .inl (cI, 16, .inl w_ofX)), (w_ofY_a, .inl (cI, 16, .inl w_ofY)), (w_places_a, .inl (cI, 16, .inl w_places))]) [1, 2, 3, 4] rfl) kL_no) rfl hl [] rfl (Nat.le_of_ble_eq_true rfl) dX6_slip_5 ⟨by decide, by decide⟩ ?_
  refine lv_if_eq (tgt := 23) hx hb dX6_slip_8 (by decide) (fun c2 => ?_) (fun c2 => ?_)
  · replace h := md_t c2 h
    refine lv_ldc2 hx hb hown (hts _ wm_X6_slip_1) dX6_slip_23 ?_
    exact hQ (-1000000000000000001 : Int64) 26 ls h dX6_slip_26
  replace h := md_f c2 h
  refine lv_aload_n hx hb dX6_slip_11 rfl (lv_at hl 0 rfl) ?_
  refine va_get (D := D) (ci := 3) (v := .ref wo) (C := RX6) (T := TX6) (N := 5) hx hb hts wi_X6_slip_X6 hown hK hP 0 rfl rfl 0 (by decide) (hts _ wm_X6_slip_0) (fun _ h9 => h9) rfl dX6_slip_12 ?_
  refine lv_iload hx hb dX6_slip_15 (lv_at hl 4 rfl) ?_
  obtain ⟨u3, hu3, h⟩ := md_b h
  refine kV C (ctX5_hasLine l  hu3) gX6_slip_X5_hasLine rfl kdvX5_hasLine ⟨rfl, rfl⟩ ⟨by decide, by decide⟩ kW_blind (va_recv hK hP (ci := 2) (q0 := 1) rfl rfl) (kW_use hK (hP.sub (ws' := [(wo, .inr (2, [.ref w_ofX_a, .ref w_ofY_a, .ref w_places_a, .int w_lines])), (w_ofX_a, .inl (cI, 16, .inl w_ofX)), (w_ofY_a, .inl (cI, 16, .inl w_ofY)), (w_places_a, .inl (cI, 16, .inl w_places))]) [1, 2, 3, 4] rfl) kL_no) rfl hl [] rfl (Nat.le_of_ble_eq_true rfl) dX6_slip_17 ⟨by decide, by decide⟩ ?_
  refine lv_if_ne (tgt := 27) hx hb dX6_slip_20 (by decide) (fun c4 => ?_) (fun c4 => ?_)
  · replace h := md_f c4 h
    refine lv_iload_n hx hb dX6_slip_27 rfl (lv_at hl 2 rfl) ?_
    refine lv_if_lt (tgt := 45) hx hb dX6_slip_28 (by decide) (fun c5 => ?_) (fun c5 => ?_)
    · replace h := md_t c5 h
      refine lv_ldc2 hx hb hown (hts _ wm_X6_slip_2) dX6_slip_45 ?_
      exact hQ (-1000000000000000002 : Int64) 48 ls h dX6_slip_48
    replace h := md_f c5 h
    refine lv_iload_n hx hb dX6_slip_31 rfl (lv_at hl 2 rfl) ?_
    refine lv_iconst (v := 4) hx hb dX6_slip_32 (by decide) ?_
    refine lv_icmp_ge (tgt := 45) hx hb dX6_slip_33 (by decide) (fun c6 => ?_) (fun c6 => ?_)
    · replace h := md_t c6 h
      refine lv_ldc2 hx hb hown (hts _ wm_X6_slip_2) dX6_slip_45 ?_
      exact hQ (-1000000000000000002 : Int64) 48 ls h dX6_slip_48
    replace h := md_f c6 h
    refine lv_iload_n hx hb dX6_slip_36 rfl (lv_at hl 3 rfl) ?_
    refine lv_if_lt (tgt := 45) hx hb dX6_slip_37 (by decide) (fun c7 => ?_) (fun c7 => ?_)
    · replace h := md_t c7 h
      refine lv_ldc2 hx hb hown (hts _ wm_X6_slip_2) dX6_slip_45 ?_
      exact hQ (-1000000000000000002 : Int64) 48 ls h dX6_slip_48
    replace h := md_f c7 h
    refine lv_iload_n hx hb dX6_slip_40 rfl (lv_at hl 3 rfl) ?_
    refine lv_iconst (v := 2) hx hb dX6_slip_41 (by decide) ?_
    refine lv_icmp_lt (tgt := 49) hx hb dX6_slip_42 (by decide) (fun c8 => ?_) (fun c8 => ?_)
    · replace h := md_t c8 h
      refine lv_aload_n hx hb dX6_slip_49 rfl (lv_at hl 0 rfl) ?_
      refine va_get (D := D) (ci := 3) (v := .ref wo) (C := RX6) (T := TX6) (N := 5) hx hb hts wi_X6_slip_X6 hown hK hP 0 rfl rfl 0 (by decide) (hts _ wm_X6_slip_0) (fun _ h9 => h9) rfl dX6_slip_50 ?_
      refine lv_iload_n hx hb dX6_slip_53 rfl (lv_at hl 1 rfl) ?_
      refine lv_iload_n hx hb dX6_slip_54 rfl (lv_at hl 2 rfl) ?_
      refine lv_iload_n hx hb dX6_slip_55 rfl (lv_at hl 3 rfl) ?_
      obtain ⟨u9, hu9, h⟩ := md_b h
      refine kV C (ctX5_slipped l  hu9) gX6_slip_X5_slipped rfl kdvX5_slipped ⟨rfl, rfl⟩ ⟨by decide, by decide⟩ kW_blind (va_recv hK hP (ci := 2) (q0 := 1) rfl rfl) (kW_use hK (hP.sub (ws' := [(wo, .inr (2, [.ref w_ofX_a, .ref w_ofY_a, .ref w_places_a, .int w_lines])), (w_ofX_a, .inl (cI, 16, .inl w_ofX)), (w_ofY_a, .inl (cI, 16, .inl w_ofY)), (w_places_a, .inl (cI, 16, .inl w_places))]) [1, 2, 3, 4] rfl) kL_no) rfl hl [] rfl (Nat.le_of_ble_eq_true rfl) dX6_slip_56 ⟨by decide, by decide⟩ ?_
      refine lv_lstore (lv' := [(5, .long u9), (0, .ref xo), (1, .int p1), (2, .int p2), (3, .int p3), (4, .int p4)]) hx hb dX6_slip_59 hl (by decide) rfl (fun ls hl => ?_)
      refine lv_lload hx hb dX6_slip_61 (lv_at hl 0 rfl) ?_
      refine lv_ldc2 hx hb hown (hts _ wm_X6_slip_3) dX6_slip_63 ?_
      refine W.lcmp hx hb dX6_slip_66 ?_
      refine lv_if_ne (tgt := 74) hx hb dX6_slip_67 (by decide) (fun c10 => ?_) (fun c10 => ?_)
      · replace c10 := fun q9 => c10 ((lg_cmp_eq _ _).mpr q9)
        replace h := md_f c10 h
        refine lv_aload_n hx hb dX6_slip_74 rfl (lv_at hl 1 rfl) ?_
        refine va_get (D := D) (ci := 3) (v := .ref wo) (C := RX6) (T := TX6) (N := 5) hx hb hts wi_X6_slip_X6 hown hK hP 0 rfl rfl 0 (by decide) (hts _ wm_X6_slip_0) (fun _ h9 => h9) rfl dX6_slip_75 ?_
        refine lv_iload hx hb dX6_slip_78 (lv_at hl 5 rfl) ?_
        obtain ⟨u11, hu11, h⟩ := md_b h
        refine kV C (ctX5_sumUpTo l  hu11) gX6_slip_X5_sumUpTo rfl kdvX5_sumUpTo ⟨rfl, rfl⟩ ⟨by decide, by decide⟩ kW_blind (va_recv hK hP (ci := 2) (q0 := 1) rfl rfl) (kW_use hK (hP.sub (ws' := [(wo, .inr (2, [.ref w_ofX_a, .ref w_ofY_a, .ref w_places_a, .int w_lines])), (w_ofX_a, .inl (cI, 16, .inl w_ofX)), (w_ofY_a, .inl (cI, 16, .inl w_ofY)), (w_places_a, .inl (cI, 16, .inl w_places))]) [1, 2, 3, 4] rfl) kL_no) rfl hl [] rfl (Nat.le_of_ble_eq_true rfl) dX6_slip_80 ⟨by decide, by decide⟩ ?_
        refine lv_lstore (lv' := [(7, .long u11), (5, .long u9), (0, .ref xo), (1, .int p1), (2, .int p2), (3, .int p3), (4, .int p4)]) hx hb dX6_slip_83 hl (by decide) rfl (fun ls hl => ?_)
        refine lv_iload hx hb dX6_slip_85 (lv_at hl 6 rfl) ?_
        refine lv_iload_n hx hb dX6_slip_87 rfl (lv_at hl 3 rfl) ?_
        refine lv_icmp_ge (tgt := 96) hx hb dX6_slip_88 (by decide) (fun c12 => ?_) (fun c12 => ?_)
        · replace h := md_t c12 h
          refine lv_lload hx hb dX6_slip_96 (lv_at hl 0 rfl) ?_
          refine lv_aload_n hx hb dX6_slip_98 rfl (lv_at hl 2 rfl) ?_
          refine va_get (D := D) (ci := 3) (v := .ref wo) (C := RX6) (T := TX6) (N := 5) hx hb hts wi_X6_slip_X6 hown hK hP 0 rfl rfl 0 (by decide) (hts _ wm_X6_slip_0) (fun _ h9 => h9) rfl dX6_slip_99 ?_
          refine lv_iload_n hx hb dX6_slip_102 rfl (lv_at hl 3 rfl) ?_
          obtain ⟨u13, hu13, h⟩ := md_b h
          refine kV C (ctX5_worth l  hu13) gX6_slip_X5_worth rfl kdvX5_worth ⟨rfl, rfl⟩ ⟨by decide, by decide⟩ kW_blind (va_recv hK hP (ci := 2) (q0 := 1) rfl rfl) (kW_use hK (hP.sub (ws' := [(wo, .inr (2, [.ref w_ofX_a, .ref w_ofY_a, .ref w_places_a, .int w_lines])), (w_ofX_a, .inl (cI, 16, .inl w_ofX)), (w_ofY_a, .inl (cI, 16, .inl w_ofY)), (w_places_a, .inl (cI, 16, .inl w_places))]) [1, 2, 3, 4] rfl) kL_no) rfl hl [.long u11] rfl (Nat.le_of_ble_eq_true rfl) dX6_slip_103 ⟨by decide, by decide⟩ ?_
          refine lv_lsub hx hb dX6_slip_106 ?_
          refine lv_lload hx hb dX6_slip_107 (lv_at hl 1 rfl) ?_
          refine lv_ladd hx hb dX6_slip_109 ?_
          exact hQ ((u11 - u13) + u9) 110 ls h dX6_slip_110
        replace h := md_f c12 h
        refine lv_lload hx hb dX6_slip_91 (lv_at hl 0 rfl) ?_
        refine lv_goto (tgt := 110) hx hb dX6_slip_93 (by decide) ?_
        exact hQ u11 110 ls h dX6_slip_110
      replace c10 := (lg_cmp_eq _ _).mp c10
      replace h := md_t c10 h
      refine lv_ldc2 hx hb hown (hts _ wm_X6_slip_4) dX6_slip_70 ?_
      exact hQ (-1000000000000000005 : Int64) 73 ls h dX6_slip_73
    replace h := md_f c8 h
    refine lv_ldc2 hx hb hown (hts _ wm_X6_slip_2) dX6_slip_45 ?_
    exact hQ (-1000000000000000002 : Int64) 48 ls h dX6_slip_48
  replace h := md_t c4 h
  refine lv_ldc2 hx hb hown (hts _ wm_X6_slip_1) dX6_slip_23 ?_
  exact hQ (-1000000000000000001 : Int64) 26 ls h dX6_slip_26
set_option maxHeartbeats 4000000 in
theorem ctX6_slip (l : Launch) {D : va_G} {cI cT : ClassId} {xo wo x_tablets_a so x_steps_a w_ofX_a w_ofY_a w_places_a : Nat} {x_stepCount : Int32} {w_ofX : Nat → Int32} {w_ofY : Nat → Int32} {w_places : Nat → Int32} {w_lines : Int32} {p1 : Int32} {p2 : Int32} {p3 : Int32} {p4 : Int32} {res : Int64} (hm : mX6_slip w_ofX w_ofY w_places w_lines p1 p2 p3 p4 = some res) : Met l yX6_slip wsX6_slip rmX6_slip (va_Pc [.ref xo, .int p1, .int p2, .int p3, .int p4] (kW D cI cT [(xo, .inr (3, [.ref wo, .ref x_tablets_a, .ref so, .ref x_steps_a, .int x_stepCount])), (wo, .inr (2, [.ref w_ofX_a, .ref w_ofY_a, .ref w_places_a, .int w_lines])), (w_ofX_a, .inl (cI, 16, .inl w_ofX)), (w_ofY_a, .inl (cI, 16, .inl w_ofY)), (w_places_a, .inl (cI, 16, .inl w_places))] none (fun _ => False))) (kR (.long res)) 0 0 (fun _ => False) :=
  km (by decide) rfl (Nat.le_of_ble_eq_true rfl) (fun p e s m below meth c ls C hB hl => bX6_slip C p1 p2 p3 p4 hB.1 x_stepCount w_ofX w_ofY w_places w_lines hB.2.1 res (fun v pc ls h hd => kr_l C h hd) hm ls hl)
theorem wm_X6_blame_0 : Cond.fieldLink RX6 10 "SixtyTablet" "working" "LSixtyTablet$Working;" ∈ wsX6_blame := by decide +kernel
theorem wm_X6_blame_1 : Cond.constantLong RX6 140 (-1) ∈ wsX6_blame := by decide +kernel
theorem wi_X6_blame_X6 : ∀ w ∈ wsX60, w ∈ wsX6_blame := by decide +kernel
theorem kdvX6_blame : yX6_blame.cls = RX6 ∧ yX6_blame.cls ≠ "java/lang/invoke/MethodHandle" ∧ yX6_blame.cls ≠ "java/lang/invoke/VarHandle" ∧ (parseMethodDescriptor yX6_blame.desc).map (fun d => d.parameters.length) = some 2 := by decide +kernel
abbrev rmX6_blame : Room := { frames := 5, cells := 0, slots := 0, locals := 111 }
def mlX6_blame_37 (x1 : Int64) (x3 : Int32) (x4 : Int64) (w_ofX : Nat → Int32) (w_ofY : Nat → Int32) (w_places : Nat → Int32) (w_lines : Int32) (kE : Int32 → Option Int32) : Nat → Int32 → Int32 → Option Int32
  | 0, _, _ => none
  | n + 1, x6, x7 => (Option.bind (mX5_lineCount w_lines) (fun u5 => (if (u5 * (8 : Int32)) ≤ x7 then (kE x6) else (md_let (x7 / (8 : Int32)) (fun (x8_7 : Int32) => (md_let ((x7 - x7 / (8 : Int32) * (8 : Int32)) / (2 : Int32)) (fun (x9_8 : Int32) => (md_let (x7 - x7 / (2 : Int32) * (2 : Int32)) (fun (x10_9 : Int32) => (Option.bind (mX5_slipped w_ofX w_ofY w_places w_lines x8_7 x9_8 x10_9) (fun u10 => (md_jn (fun (x6_149 : Int32) => (md_let (x7 + (1 : Int32)) (fun (x7_11 : Int32) => (mlX6_blame_37 x1 x3 x4 w_ofX w_ofY w_places w_lines kE n x6_149 x7_11)))) (fun kJ149 => (if u10 = (-1 : Int64) then (kJ149 x6) else (if x1 = x4 then (kJ149 x6) else (Option.bind (mX5_worth w_ofX w_ofY w_places w_lines x8_7) (fun u14 => (if ((x4 - u14) + u10) = x1 then (if x6 = x3 then (some ((((100 : Int32) * x8_7) + ((10 : Int32) * x9_8)) + x10_9)) else (md_let (x6 + (1 : Int32)) (fun (x6_17 : Int32) => (kJ149 x6_17)))) else (kJ149 x6)))))))))))))))))))
set_option maxHeartbeats 4000000 in
set_option maxRecDepth 100000 in
theorem lX6_blame_37 {p : Program} {l : Launch} {e : Env} {s : State} {m : MethodId} {args : Array Value} {below : List Frame} {meth : Method} {c : Code} {Q : State → Prop} (C : kc p s m args meth c cX6_blame 13 RX6 yX6_blame.name wsX6_blame (some .int)) {D : va_G} {cI cT : ClassId} {xo wo x_tablets_a so x_steps_a w_ofX_a w_ofY_a w_places_a : Nat} (hK : va_K D vwCl (kTy cI cT) s) (x1 : Int64) (x3 : Int32) (x4 : Int64) (x_stepCount : Int32) (w_ofX : Nat → Int32) (w_ofY : Nat → Int32) (w_places : Nat → Int32) (w_lines : Int32) (hP : va_P D vwCl [(xo, .inr (3, [.ref wo, .ref x_tablets_a, .ref so, .ref x_steps_a, .int x_stepCount])), (wo, .inr (2, [.ref w_ofX_a, .ref w_ofY_a, .ref w_places_a, .int w_lines])), (w_ofX_a, .inl (cI, 16, .inl w_ofX)), (w_ofY_a, .inl (cI, 16, .inl w_ofY)), (w_places_a, .inl (cI, 16, .inl w_places))] s.heap) (res : Int32) (hQ : ∀ (v : Int32) (pc : Nat) (ls : Array Slot), some v = some res → decode cX6_blame pc = .ok (.ireturn, 1) → W p l e rmX6_blame s m args below meth c s.heap [] 0 0 Q (F0 m pc ls [.int v])) (kE : Int32 → Option Int32) (hE : ∀ (y6 : Int32), kE y6 = some res → ∀ (ls : Array Slot), lv_has ls 13 [(3, .int x3), (6, .int y6)] → W p l e rmX6_blame s m args below meth c s.heap [] 0 0 Q (F0 m 155 ls [])) : ∀ (n : Nat), ∀ (x6 : Int32) (x7 : Int32), mlX6_blame_37 x1 x3 x4 w_ofX w_ofY w_places w_lines kE n x6 x7 = some res → ∀ (ls : Array Slot), lv_has ls 13 [(0, .ref xo), (1, .long x1), (3, .int x3), (4, .long x4), (6, .int x6), (7, .int x7)] → W p l e rmX6_blame s m args below meth c s.heap [] 0 0 Q (F0 m 37 ls []) := by
  have C0 := C
  obtain ⟨hx, hb, hml, hown, hts, hr, hlk, hnm⟩ := C0
  intro n
  induction n with
  | zero => intro _ _ h; exact md_x h
  | succ n ih =>
    intro x6 x7 h ls hl
    rw [mlX6_blame_37] at h
    refine lv_iload hx hb dX6_blame_37 (lv_at hl 5 rfl) ?_
    refine lv_aload_n hx hb dX6_blame_39 rfl (lv_at hl 0 rfl) ?_
    refine va_get (D := D) (ci := 3) (v := .ref wo) (C := RX6) (T := TX6) (N := 5) hx hb hts wi_X6_blame_X6 hown hK hP 0 rfl rfl 0 (by decide) (hts _ wm_X6_blame_0) (fun _ h9 => h9) rfl dX6_blame_40 ?_
    obtain ⟨u5, hu5, h⟩ := md_b h
    refine kV C (ctX5_lineCount l  hu5) gX6_blame_X5_lineCount rfl kdvX5_lineCount ⟨rfl, rfl⟩ ⟨by decide, by decide⟩ kW_blind (va_recv hK hP (ci := 2) (q0 := 1) rfl rfl) (kW_use hK (hP.sub (ws' := [(wo, .inr (2, [.ref w_ofX_a, .ref w_ofY_a, .ref w_places_a, .int w_lines])), (w_ofX_a, .inl (cI, 16, .inl w_ofX)), (w_ofY_a, .inl (cI, 16, .inl w_ofY)), (w_places_a, .inl (cI, 16, .inl w_places))]) [1, 2, 3, 4] rfl) kL_no) rfl hl [.int x7] rfl (Nat.le_of_ble_eq_true rfl) dX6_blame_43 ⟨by decide, by decide⟩ ?_
    refine lv_bipush (v := 8) hx hb dX6_blame_46 (by decide) ?_
    refine lv_imul hx hb dX6_blame_48 ?_
    refine lv_icmp_ge (tgt := 155) hx hb dX6_blame_49 (by decide) (fun c6 => ?_) (fun c6 => ?_)
    · replace h := md_t c6 h
      exact hE x6 h ls (lv_sub hl [2, 4] rfl)
    replace h := md_f c6 h
    refine lv_iload hx hb dX6_blame_52 (lv_at hl 5 rfl) ?_
    refine lv_bipush (v := 8) hx hb dX6_blame_54 (by decide) ?_
    refine lv_idiv hx hb dX6_blame_56 (by decide) ?_
    refine lv_topi (fun x8_7 ex8_7 => ?_)
    replace h := md_le ex8_7 h
    refine lv_istore (lv' := [(8, .int x8_7), (0, .ref xo), (1, .long x1), (3, .int x3), (4, .long x4), (6, .int x6), (7, .int x7)]) hx hb dX6_blame_57 hl (by decide) rfl (fun ls hl => ?_)
    refine lv_iload hx hb dX6_blame_59 (lv_at hl 6 rfl) ?_
    refine lv_bipush (v := 8) hx hb dX6_blame_61 (by decide) ?_
    refine lv_irem hx hb dX6_blame_63 (by decide) ?_
    refine lv_iconst (v := 2) hx hb dX6_blame_64 (by decide) ?_
    refine lv_idiv hx hb dX6_blame_65 (by decide) ?_
    refine lv_topi (fun x9_8 ex9_8 => ?_)
    replace h := md_le ex9_8 h
    refine lv_istore (lv' := [(9, .int x9_8), (8, .int x8_7), (0, .ref xo), (1, .long x1), (3, .int x3), (4, .long x4), (6, .int x6), (7, .int x7)]) hx hb dX6_blame_66 hl (by decide) rfl (fun ls hl => ?_)
    refine lv_iload hx hb dX6_blame_68 (lv_at hl 7 rfl) ?_
    refine lv_iconst (v := 2) hx hb dX6_blame_70 (by decide) ?_
    refine lv_irem hx hb dX6_blame_71 (by decide) ?_
    refine lv_topi (fun x10_9 ex10_9 => ?_)
    replace h := md_le ex10_9 h
    refine lv_istore (lv' := [(10, .int x10_9), (9, .int x9_8), (8, .int x8_7), (0, .ref xo), (1, .long x1), (3, .int x3), (4, .long x4), (6, .int x6), (7, .int x7)]) hx hb dX6_blame_72 hl (by decide) rfl (fun ls hl => ?_)
    refine lv_aload_n hx hb dX6_blame_74 rfl (lv_at hl 3 rfl) ?_
    refine va_get (D := D) (ci := 3) (v := .ref wo) (C := RX6) (T := TX6) (N := 5) hx hb hts wi_X6_blame_X6 hown hK hP 0 rfl rfl 0 (by decide) (hts _ wm_X6_blame_0) (fun _ h9 => h9) rfl dX6_blame_75 ?_
    refine lv_iload hx hb dX6_blame_78 (lv_at hl 2 rfl) ?_
    refine lv_iload hx hb dX6_blame_80 (lv_at hl 1 rfl) ?_
    refine lv_iload hx hb dX6_blame_82 (lv_at hl 0 rfl) ?_
    obtain ⟨u10, hu10, h⟩ := md_b h
    refine kV C (ctX5_slipped l  hu10) gX6_blame_X5_slipped rfl kdvX5_slipped ⟨rfl, rfl⟩ ⟨by decide, by decide⟩ kW_blind (va_recv hK hP (ci := 2) (q0 := 1) rfl rfl) (kW_use hK (hP.sub (ws' := [(wo, .inr (2, [.ref w_ofX_a, .ref w_ofY_a, .ref w_places_a, .int w_lines])), (w_ofX_a, .inl (cI, 16, .inl w_ofX)), (w_ofY_a, .inl (cI, 16, .inl w_ofY)), (w_places_a, .inl (cI, 16, .inl w_places))]) [1, 2, 3, 4] rfl) kL_no) rfl hl [] rfl (Nat.le_of_ble_eq_true rfl) dX6_blame_84 ⟨by decide, by decide⟩ ?_
    refine lv_lstore (lv' := [(11, .long u10), (10, .int x10_9), (9, .int x9_8), (8, .int x8_7), (0, .ref xo), (1, .long x1), (3, .int x3), (4, .long x4), (6, .int x6), (7, .int x7)]) hx hb dX6_blame_87 hl (by decide) rfl (fun ls hl => ?_)
    refine lv_lload hx hb dX6_blame_89 (lv_at hl 0 rfl) ?_
    refine lv_ldc2 hx hb hown (hts _ wm_X6_blame_1) dX6_blame_91 ?_
    refine W.lcmp hx hb dX6_blame_94 ?_
    obtain ⟨kJ149, ekJ149, h⟩ := md_jo h
    have KJ149 : ∀ (x6_149 : Int32), kJ149 x6_149 = some res → ∀ (ls : Array Slot), lv_has ls 13 [(0, .ref xo), (1, .long x1), (3, .int x3), (4, .long x4), (6, .int x6_149), (7, .int x7)] → W p l e rmX6_blame s m args below meth c s.heap [] 0 0 Q (F0 m 149 ls []) := by
      intro x6_149 h ls hl
      rw [ekJ149] at h
      obtain ⟨x7_11, ex7_11⟩ : ∃ y : Int32, y = (x7 + (1 : Int32)) := ⟨_, rfl⟩
      replace h := md_le ex7_11 h
      refine lv_iinc (v := x7_11) (lv' := [(7, .int x7_11), (0, .ref xo), (1, .long x1), (3, .int x3), (4, .long x4), (6, .int x6_149)]) hx hb dX6_blame_149 hl (k := 5) rfl (by rw [ex7_11]; rfl) (by decide) rfl (fun ls hl => ?_)
      refine lv_goto (tgt := 37) hx hb dX6_blame_152 (by decide) ?_
      exact ih x6_149 x7_11 h ls (lv_sub hl [1, 2, 3, 4, 5, 0] rfl)
    clear ekJ149
    refine lv_if_eq (tgt := 149) hx hb dX6_blame_95 (by decide) (fun c12 => ?_) (fun c12 => ?_)
    · replace c12 := (lg_cmp_eq _ _).mp c12
      replace h := md_t c12 h
      exact KJ149 x6 h ls (lv_sub hl [4, 5, 6, 7, 8, 9] rfl)
    replace c12 := fun q9 => c12 ((lg_cmp_eq _ _).mpr q9)
    replace h := md_f c12 h
    refine lv_lload_n hx hb dX6_blame_98 rfl (lv_at hl 5 rfl) ?_
    refine lv_lload hx hb dX6_blame_99 (lv_at hl 7 rfl) ?_
    refine W.lcmp hx hb dX6_blame_101 ?_
    refine lv_if_eq (tgt := 149) hx hb dX6_blame_102 (by decide) (fun c13 => ?_) (fun c13 => ?_)
    · replace c13 := (lg_cmp_eq _ _).mp c13
      replace h := md_t c13 h
      exact KJ149 x6 h ls (lv_sub hl [4, 5, 6, 7, 8, 9] rfl)
    replace c13 := fun q9 => c13 ((lg_cmp_eq _ _).mpr q9)
    replace h := md_f c13 h
    refine lv_lload hx hb dX6_blame_105 (lv_at hl 7 rfl) ?_
    refine lv_aload_n hx hb dX6_blame_107 rfl (lv_at hl 4 rfl) ?_
    refine va_get (D := D) (ci := 3) (v := .ref wo) (C := RX6) (T := TX6) (N := 5) hx hb hts wi_X6_blame_X6 hown hK hP 0 rfl rfl 0 (by decide) (hts _ wm_X6_blame_0) (fun _ h9 => h9) rfl dX6_blame_108 ?_
    refine lv_iload hx hb dX6_blame_111 (lv_at hl 3 rfl) ?_
    obtain ⟨u14, hu14, h⟩ := md_b h
    refine kV C (ctX5_worth l  hu14) gX6_blame_X5_worth rfl kdvX5_worth ⟨rfl, rfl⟩ ⟨by decide, by decide⟩ kW_blind (va_recv hK hP (ci := 2) (q0 := 1) rfl rfl) (kW_use hK (hP.sub (ws' := [(wo, .inr (2, [.ref w_ofX_a, .ref w_ofY_a, .ref w_places_a, .int w_lines])), (w_ofX_a, .inl (cI, 16, .inl w_ofX)), (w_ofY_a, .inl (cI, 16, .inl w_ofY)), (w_places_a, .inl (cI, 16, .inl w_places))]) [1, 2, 3, 4] rfl) kL_no) rfl hl [.long x4] rfl (Nat.le_of_ble_eq_true rfl) dX6_blame_113 ⟨by decide, by decide⟩ ?_
    refine lv_lsub hx hb dX6_blame_116 ?_
    refine lv_lload hx hb dX6_blame_117 (lv_at hl 0 rfl) ?_
    refine lv_ladd hx hb dX6_blame_119 ?_
    refine lv_lload_n hx hb dX6_blame_120 rfl (lv_at hl 5 rfl) ?_
    refine W.lcmp hx hb dX6_blame_121 ?_
    refine lv_if_ne (tgt := 149) hx hb dX6_blame_122 (by decide) (fun c15 => ?_) (fun c15 => ?_)
    · replace c15 := fun q9 => c15 ((lg_cmp_eq _ _).mpr q9)
      replace h := md_f c15 h
      exact KJ149 x6 h ls (lv_sub hl [4, 5, 6, 7, 8, 9] rfl)
    replace c15 := (lg_cmp_eq _ _).mp c15
    replace h := md_t c15 h
    refine lv_iload hx hb dX6_blame_125 (lv_at hl 8 rfl) ?_
    refine lv_iload_n hx hb dX6_blame_127 rfl (lv_at hl 6 rfl) ?_
    refine lv_icmp_ne (tgt := 146) hx hb dX6_blame_128 (by decide) (fun c16 => ?_) (fun c16 => ?_)
    · replace h := md_f c16 h
      obtain ⟨x6_17, ex6_17⟩ : ∃ y : Int32, y = (x6 + (1 : Int32)) := ⟨_, rfl⟩
      replace h := md_le ex6_17 h
      refine lv_iinc (v := x6_17) (lv' := [(6, .int x6_17), (11, .long u10), (10, .int x10_9), (9, .int x9_8), (8, .int x8_7), (0, .ref xo), (1, .long x1), (3, .int x3), (4, .long x4), (7, .int x7)]) hx hb dX6_blame_146 hl (k := 8) rfl (by rw [ex6_17]; rfl) (by decide) rfl (fun ls hl => ?_)
      exact KJ149 x6_17 h ls (lv_sub hl [5, 6, 7, 8, 0, 9] rfl)
    replace h := md_t c16 h
    refine lv_bipush (v := 100) hx hb dX6_blame_131 (by decide) ?_
    refine lv_iload hx hb dX6_blame_133 (lv_at hl 3 rfl) ?_
    refine lv_imul hx hb dX6_blame_135 ?_
    refine lv_bipush (v := 10) hx hb dX6_blame_136 (by decide) ?_
    refine lv_iload hx hb dX6_blame_138 (lv_at hl 2 rfl) ?_
    refine lv_imul hx hb dX6_blame_140 ?_
    refine lv_iadd hx hb dX6_blame_141 ?_
    refine lv_iload hx hb dX6_blame_142 (lv_at hl 1 rfl) ?_
    refine lv_iadd hx hb dX6_blame_144 ?_
    exact hQ ((((100 : Int32) * x8_7) + ((10 : Int32) * x9_8)) + x10_9) 145 ls h dX6_blame_145
def mX6_blame (w_ofX : Nat → Int32) (w_ofY : Nat → Int32) (w_places : Nat → Int32) (w_lines : Int32) (p1 : Int64) (p2 : Int32) : Option Int32 := (Option.bind (mX5_lineCount w_lines) (fun u1 => (if u1 = 0 then (some (-3 : Int32)) else (Option.bind (mX5_lineCount w_lines) (fun u3 => (Option.bind (mX5_sumUpTo w_ofX w_ofY w_places w_lines (u3 - (1 : Int32))) (fun u4 => (mlX6_blame_37 p1 p2 u4 w_ofX w_ofY w_places w_lines (fun (y6_155 : Int32) => (if p2 = (-1 : Int32) then (some y6_155) else (some (-6 : Int32)))) kN (0 : Int32) (0 : Int32)))))))))
set_option maxHeartbeats 4000000 in
set_option maxRecDepth 100000 in
theorem bX6_blame {p : Program} {l : Launch} {e : Env} {s : State} {m : MethodId} {args : Array Value} {below : List Frame} {meth : Method} {c : Code} {Q : State → Prop} (C : kc p s m args meth c cX6_blame 13 RX6 yX6_blame.name wsX6_blame (some .int)) {D : va_G} {cI cT : ClassId} {xo wo x_tablets_a so x_steps_a w_ofX_a w_ofY_a w_places_a : Nat} (p1 : Int64) (p2 : Int32) (hK : va_K D vwCl (kTy cI cT) s) (x_stepCount : Int32) (w_ofX : Nat → Int32) (w_ofY : Nat → Int32) (w_places : Nat → Int32) (w_lines : Int32) (hP : va_P D vwCl [(xo, .inr (3, [.ref wo, .ref x_tablets_a, .ref so, .ref x_steps_a, .int x_stepCount])), (wo, .inr (2, [.ref w_ofX_a, .ref w_ofY_a, .ref w_places_a, .int w_lines])), (w_ofX_a, .inl (cI, 16, .inl w_ofX)), (w_ofY_a, .inl (cI, 16, .inl w_ofY)), (w_places_a, .inl (cI, 16, .inl w_places))] s.heap) (res : Int32) (hQ : ∀ (v : Int32) (pc : Nat) (ls : Array Slot), some v = some res → decode cX6_blame pc = .ok (.ireturn, 1) → W p l e rmX6_blame s m args below meth c s.heap [] 0 0 Q (F0 m pc ls [.int v])) : mX6_blame w_ofX w_ofY w_places w_lines p1 p2 = some res → ∀ (ls : Array Slot), lv_has ls 13 [(0, .ref xo), (1, .long p1), (3, .int p2)] → W p l e rmX6_blame s m args below meth c s.heap [] 0 0 Q (F0 m 0 ls []) := by
  intro h ls hl
  have C0 := C
  obtain ⟨hx, hb, hml, hown, hts, hr, hlk, hnm⟩ := C0
  rw [mX6_blame] at h
  refine lv_aload_n hx hb dX6_blame_0 rfl (lv_at hl 0 rfl) ?_
  refine va_get (D := D) (ci := 3) (v := .ref wo) (C := RX6) (T := TX6) (N := 5) hx hb hts wi_X6_blame_X6 hown hK hP 0 rfl rfl 0 (by decide) (hts _ wm_X6_blame_0) (fun _ h9 => h9) rfl dX6_blame_1 ?_
  obtain ⟨u1, hu1, h⟩ := md_b h
  refine kV C (ctX5_lineCount l  hu1) gX6_blame_X5_lineCount rfl kdvX5_lineCount ⟨rfl, rfl⟩ ⟨by decide, by decide⟩ kW_blind (va_recv hK hP (ci := 2) (q0 := 1) rfl rfl) (kW_use hK (hP.sub (ws' := [(wo, .inr (2, [.ref w_ofX_a, .ref w_ofY_a, .ref w_places_a, .int w_lines])), (w_ofX_a, .inl (cI, 16, .inl w_ofX)), (w_ofY_a, .inl (cI, 16, .inl w_ofY)), (w_places_a, .inl (cI, 16, .inl w_places))]) [1, 2, 3, 4] rfl) kL_no) rfl hl [] rfl (Nat.le_of_ble_eq_true rfl) dX6_blame_4 ⟨by decide, by decide⟩ ?_
  refine lv_if_ne (tgt := 13) hx hb dX6_blame_7 (by decide) (fun c2 => ?_) (fun c2 => ?_)
  · replace h := md_f c2 h
    refine lv_aload_n hx hb dX6_blame_13 rfl (lv_at hl 0 rfl) ?_
    refine va_get (D := D) (ci := 3) (v := .ref wo) (C := RX6) (T := TX6) (N := 5) hx hb hts wi_X6_blame_X6 hown hK hP 0 rfl rfl 0 (by decide) (hts _ wm_X6_blame_0) (fun _ h9 => h9) rfl dX6_blame_14 ?_
    refine lv_aload_n hx hb dX6_blame_17 rfl (lv_at hl 0 rfl) ?_
    refine va_get (D := D) (ci := 3) (v := .ref wo) (C := RX6) (T := TX6) (N := 5) hx hb hts wi_X6_blame_X6 hown hK hP 0 rfl rfl 0 (by decide) (hts _ wm_X6_blame_0) (fun _ h9 => h9) rfl dX6_blame_18 ?_
    obtain ⟨u3, hu3, h⟩ := md_b h
    refine kV C (ctX5_lineCount l  hu3) gX6_blame_X5_lineCount rfl kdvX5_lineCount ⟨rfl, rfl⟩ ⟨by decide, by decide⟩ kW_blind (va_recv hK hP (ci := 2) (q0 := 1) rfl rfl) (kW_use hK (hP.sub (ws' := [(wo, .inr (2, [.ref w_ofX_a, .ref w_ofY_a, .ref w_places_a, .int w_lines])), (w_ofX_a, .inl (cI, 16, .inl w_ofX)), (w_ofY_a, .inl (cI, 16, .inl w_ofY)), (w_places_a, .inl (cI, 16, .inl w_places))]) [1, 2, 3, 4] rfl) kL_no) rfl hl [.ref wo] rfl (Nat.le_of_ble_eq_true rfl) dX6_blame_21 ⟨by decide, by decide⟩ ?_
    refine lv_iconst (v := 1) hx hb dX6_blame_24 (by decide) ?_
    refine lv_isub hx hb dX6_blame_25 ?_
    obtain ⟨u4, hu4, h⟩ := md_b h
    refine kV C (ctX5_sumUpTo l  hu4) gX6_blame_X5_sumUpTo rfl kdvX5_sumUpTo ⟨rfl, rfl⟩ ⟨by decide, by decide⟩ kW_blind (va_recv hK hP (ci := 2) (q0 := 1) rfl rfl) (kW_use hK (hP.sub (ws' := [(wo, .inr (2, [.ref w_ofX_a, .ref w_ofY_a, .ref w_places_a, .int w_lines])), (w_ofX_a, .inl (cI, 16, .inl w_ofX)), (w_ofY_a, .inl (cI, 16, .inl w_ofY)), (w_places_a, .inl (cI, 16, .inl w_places))]) [1, 2, 3, 4] rfl) kL_no) rfl hl [] rfl (Nat.le_of_ble_eq_true rfl) dX6_blame_26 ⟨by decide, by decide⟩ ?_
    refine lv_lstore (lv' := [(4, .long u4), (0, .ref xo), (1, .long p1), (3, .int p2)]) hx hb dX6_blame_29 hl (by decide) rfl (fun ls hl => ?_)
    refine lv_iconst (v := 0) hx hb dX6_blame_31 (by decide) ?_
    refine lv_istore (lv' := [(6, .int (0 : Int32)), (4, .long u4), (0, .ref xo), (1, .long p1), (3, .int p2)]) hx hb dX6_blame_32 hl (by decide) rfl (fun ls hl => ?_)
    refine lv_iconst (v := 0) hx hb dX6_blame_34 (by decide) ?_
    refine lv_istore (lv' := [(7, .int (0 : Int32)), (6, .int (0 : Int32)), (4, .long u4), (0, .ref xo), (1, .long p1), (3, .int p2)]) hx hb dX6_blame_35 hl (by decide) rfl (fun ls hl => ?_)
    refine lX6_blame_37 (xo := xo) (wo := wo) (x_tablets_a := x_tablets_a) (so := so) (x_steps_a := x_steps_a) (w_ofX_a := w_ofX_a) (w_ofY_a := w_ofY_a) (w_places_a := w_places_a) C hK p1 p2 u4 x_stepCount w_ofX w_ofY w_places w_lines hP res hQ _ (fun y6_155 h ls hl => ?_) kN (0 : Int32) (0 : Int32) h ls (lv_sub hl [3, 4, 5, 2, 1, 0] rfl)
    refine lv_iload_n hx hb dX6_blame_155 rfl (lv_at hl 0 rfl) ?_
    refine lv_iconst (v := -1) hx hb dX6_blame_156 (by decide) ?_
    refine lv_icmp_ne (tgt := 165) hx hb dX6_blame_157 (by decide) (fun c18 => ?_) (fun c18 => ?_)
    · replace h := md_f c18 h
      refine lv_bipush (v := -6) hx hb dX6_blame_165 (by decide) ?_
      exact hQ (-6 : Int32) 167 ls h dX6_blame_167
    replace h := md_t c18 h
    refine lv_iload hx hb dX6_blame_160 (lv_at hl 1 rfl) ?_
    refine lv_goto (tgt := 167) hx hb dX6_blame_162 (by decide) ?_
    exact hQ y6_155 167 ls h dX6_blame_167
  replace h := md_t c2 h
  refine lv_bipush (v := -3) hx hb dX6_blame_10 (by decide) ?_
  exact hQ (-3 : Int32) 12 ls h dX6_blame_12
set_option maxHeartbeats 4000000 in
theorem ctX6_blame (l : Launch) {D : va_G} {cI cT : ClassId} {xo wo x_tablets_a so x_steps_a w_ofX_a w_ofY_a w_places_a : Nat} {x_stepCount : Int32} {w_ofX : Nat → Int32} {w_ofY : Nat → Int32} {w_places : Nat → Int32} {w_lines : Int32} {p1 : Int64} {p2 : Int32} {res : Int32} (hm : mX6_blame w_ofX w_ofY w_places w_lines p1 p2 = some res) : Met l yX6_blame wsX6_blame rmX6_blame (va_Pc [.ref xo, .long p1, .int p2] (kW D cI cT [(xo, .inr (3, [.ref wo, .ref x_tablets_a, .ref so, .ref x_steps_a, .int x_stepCount])), (wo, .inr (2, [.ref w_ofX_a, .ref w_ofY_a, .ref w_places_a, .int w_lines])), (w_ofX_a, .inl (cI, 16, .inl w_ofX)), (w_ofY_a, .inl (cI, 16, .inl w_ofY)), (w_places_a, .inl (cI, 16, .inl w_places))] none (fun _ => False))) (kR (.int res)) 0 0 (fun _ => False) :=
  km (by decide) rfl (Nat.le_of_ble_eq_true rfl) (fun p e s m below meth c ls C hB hl => bX6_blame C p1 p2 hB.1 x_stepCount w_ofX w_ofY w_places w_lines hB.2.1 res (fun v pc ls h hd => kr_i C h hd) hm ls hl)
