theorem kdvX6_tablet : yX6_tablet.cls = RX6 ∧ yX6_tablet.cls ≠ "java/lang/invoke/MethodHandle" ∧ yX6_tablet.cls ≠ "java/lang/invoke/VarHandle" ∧ (parseMethodDescriptor yX6_tablet.desc).map (fun d => d.parameters.length) = some 2 := by decide +kernel
abbrev rmX6_tablet_i : Room := { frames := 1, cells := 0, slots := 0, locals := 22 }
def mX6_tablet_i (t_cells : Nat → Int32) (t_sixties : Nat → Int32) (t_rows : Int32) (p1 : Int32) (p2 : Int32) : Option (Int32 × (Nat → Int32) × (Nat → Int32) × Int32) := (if p2 < (1 : Int32) then (some ((-2 : Int32), t_cells, t_sixties, t_rows)) else (if p2 ≤ (8 : Int32) then (Option.bind (mX3_smooth t_cells t_sixties p2) (fun u3 => (some ((1 : Int32), u3.1, u3.2.1, u3.2.2)))) else (some ((-2 : Int32), t_cells, t_sixties, t_rows))))
set_option maxHeartbeats 4000000 in
set_option maxRecDepth 100000 in
theorem bX6_tablet_i {p : Program} {l : Launch} {e : Env} {s : State} {m : MethodId} {args : Array Value} {below : List Frame} {meth : Method} {c : Code} {Q : State → Prop} (C : kc p s m args meth c cX6_tablet 4 RX6 yX6_tablet.name wsX6_tablet (some .int)) {D : va_G} {cI cT : ClassId} {xo wo x_tablets_a so x_steps_a to t_cells_a t_sixties_a : Nat} {x_refs : Nat → Option Nat} (p1 : Int32) (p2 : Int32) (hK : va_K D vwCl (kTy cI cT) s) (hnd : ([xo, x_tablets_a, to, t_cells_a, t_sixties_a] : List Nat).Nodup) (hti0 : vp_in p1 4) (htr0 : x_refs (Int32.toNatClampNeg p1) = some to) (x_stepCount : Int32) (t_cells : Nat → Int32) (t_sixties : Nat → Int32) (t_rows : Int32) (res : (Int32 × (Nat → Int32) × (Nat → Int32) × Int32)) (hQ : ∀ (v : Int32) (t_cells : Nat → Int32) (t_sixties : Nat → Int32) (t_rows : Int32) (H : Heap) (locs : List Loc) (pc : Nat) (ls : Array Slot), some (v, t_cells, t_sixties, t_rows) = some res → va_P D vwCl [(xo, .inr (3, [.ref wo, .ref x_tablets_a, .ref so, .ref x_steps_a, .int x_stepCount])), (x_tablets_a, .inl (cT, 4, .inr (.inr (.inr (.inr x_refs))))), (to, .inr (1, [.ref t_cells_a, .ref t_sixties_a, .int t_rows])), (t_cells_a, .inl (cI, 24, .inl t_cells)), (t_sixties_a, .inl (cI, 24, .inl t_sixties))] H → va_S (fun q => q ∈ ([xo, x_tablets_a, to, t_cells_a, t_sixties_a] : List Nat)) s.heap H locs → decode cX6_tablet pc = .ok (.ireturn, 1) → W p l e rmX6_tablet_i s m args below meth c H locs 0 0 Q (F0 m pc ls [.int v])) : mX6_tablet_i t_cells t_sixties t_rows p1 p2 = some res → ∀ (H : Heap) (locs : List Loc), va_P D vwCl [(xo, .inr (3, [.ref wo, .ref x_tablets_a, .ref so, .ref x_steps_a, .int x_stepCount])), (x_tablets_a, .inl (cT, 4, .inr (.inr (.inr (.inr x_refs))))), (to, .inr (1, [.ref t_cells_a, .ref t_sixties_a, .int t_rows])), (t_cells_a, .inl (cI, 24, .inl t_cells)), (t_sixties_a, .inl (cI, 24, .inl t_sixties))] H → va_S (fun q => q ∈ ([xo, x_tablets_a, to, t_cells_a, t_sixties_a] : List Nat)) s.heap H locs → ∀ (ls : Array Slot), lv_has ls 4 [(0, .ref xo), (1, .int p1), (2, .int p2)] → W p l e rmX6_tablet_i s m args below meth c H locs 0 0 Q (F0 m 0 ls []) := by
  intro h H locs hP hS ls hl
  have C0 := C
  obtain ⟨hx, hb, hml, hown, hts, hr, hlk, hnm⟩ := C0
  rw [mX6_tablet_i] at h
  refine lv_aload_n hx hb dX6_tablet_0 rfl (lv_at hl 0 rfl) ?_
  refine lv_iload_n hx hb dX6_tablet_1 rfl (lv_at hl 1 rfl) ?_
  refine kV C (ctX6_clayOf_i l hti0 htr0) gX6_tablet_X6_clayOf rfl kdvX6_clayOf ⟨rfl, rfl⟩ ⟨by decide, by decide⟩ kW_blind (va_recv hK hP (ci := 3) (q0 := 0) rfl rfl) (kW_use hK (hP.sub (ws' := [(xo, .inr (3, [.ref wo, .ref x_tablets_a, .ref so, .ref x_steps_a, .int x_stepCount])), (x_tablets_a, .inl (cT, 4, .inr (.inr (.inr (.inr x_refs)))))]) [0, 1] rfl) kL_no) rfl hl [] rfl (Nat.le_of_ble_eq_true rfl) dX6_tablet_2 ⟨by decide, by decide⟩ ?_
  refine lv_astore_n (lv' := [(3, .ref to), (0, .ref xo), (1, .int p1), (2, .int p2)]) hx hb dX6_tablet_5 rfl hl (by decide) rfl (fun ls hl => ?_)
  refine lv_aload_n hx hb dX6_tablet_6 rfl (lv_at hl 0 rfl) ?_
  refine lv_ifnonnull (tgt := 12) hx hb dX6_tablet_7 (by decide) ?_
  refine lv_iload_n hx hb dX6_tablet_12 rfl (lv_at hl 3 rfl) ?_
  refine lv_iconst (v := 1) hx hb dX6_tablet_13 (by decide) ?_
  refine lv_icmp_lt (tgt := 23) hx hb dX6_tablet_14 (by decide) (fun c1 => ?_) (fun c1 => ?_)
  · replace h := md_t c1 h
    refine lv_bipush (v := -2) hx hb dX6_tablet_23 (by decide) ?_
    exact hQ (-2 : Int32) t_cells t_sixties t_rows H locs 25 ls h hP hS dX6_tablet_25
  replace h := md_f c1 h
  refine lv_iload_n hx hb dX6_tablet_17 rfl (lv_at hl 3 rfl) ?_
  refine lv_bipush (v := 8) hx hb dX6_tablet_18 (by decide) ?_
  refine lv_icmp_le (tgt := 26) hx hb dX6_tablet_20 (by decide) (fun c2 => ?_) (fun c2 => ?_)
  · replace h := md_t c2 h
    refine lv_aload_n hx hb dX6_tablet_26 rfl (lv_at hl 0 rfl) ?_
    refine lv_iload_n hx hb dX6_tablet_27 rfl (lv_at hl 3 rfl) ?_
    obtain ⟨u3, hu3, h⟩ := md_b h
    refine kVx C (ctX3_smooth l (nd_sub hnd [2, 3, 4] (by decide) rfl) hu3) gX6_tablet_X3_smooth rfl kdvX3_smooth ⟨rfl, rfl⟩ ⟨by decide, by decide⟩ kW_blind (va_recv hK hP (ci := 1) (q0 := 2) rfl rfl) (kW_use hK (hP.sub (ws' := [(to, .inr (1, [.ref t_cells_a, .ref t_sixties_a, .int t_rows])), (t_cells_a, .inl (cI, 24, .inl t_cells)), (t_sixties_a, .inl (cI, 24, .inl t_sixties))]) [2, 3, 4] rfl) kL_no) rfl hl [] rfl (Nat.le_of_ble_eq_true rfl) dX6_tablet_28 ⟨by decide, by decide⟩ hS (mem_sub [2, 3, 4] rfl) (fun H1 locs hP1 hk1 hS => ?_)
    replace hP : va_P D vwCl [(xo, .inr (3, [.ref wo, .ref x_tablets_a, .ref so, .ref x_steps_a, .int x_stepCount])), (x_tablets_a, .inl (cT, 4, .inr (.inr (.inr (.inr x_refs))))), (to, .inr (1, [.ref t_cells_a, .ref t_sixties_a, .int u3.2.2])), (t_cells_a, .inl (cI, 24, .inl u3.1)), (t_sixties_a, .inl (cI, 24, .inl u3.2.1))] H1 := kjoin hnd rfl hP hP1 hk1 [2, 3, 4] rfl [(false, 0), (false, 1), (true, 0), (true, 1), (true, 2)] rfl rfl
    clear hP1 hk1
    generalize H1 = H at hP hS ⊢
    refine lv_iconst (v := 1) hx hb dX6_tablet_31 (by decide) ?_
    exact hQ (1 : Int32) u3.1 u3.2.1 u3.2.2 H locs 32 ls h hP hS dX6_tablet_32
  replace h := md_f c2 h
  refine lv_bipush (v := -2) hx hb dX6_tablet_23 (by decide) ?_
  exact hQ (-2 : Int32) t_cells t_sixties t_rows H locs 25 ls h hP hS dX6_tablet_25
set_option maxHeartbeats 4000000 in
theorem ctX6_tablet_i (l : Launch) {D : va_G} {cI cT : ClassId} {xo wo x_tablets_a so x_steps_a to t_cells_a t_sixties_a : Nat} {x_refs : Nat → Option Nat} {x_stepCount : Int32} {t_cells : Nat → Int32} {t_sixties : Nat → Int32} {t_rows : Int32} {p1 : Int32} {p2 : Int32} {res : (Int32 × (Nat → Int32) × (Nat → Int32) × Int32)} (hnd : ([xo, x_tablets_a, to, t_cells_a, t_sixties_a] : List Nat).Nodup) (hti0 : vp_in p1 4) (htr0 : x_refs (Int32.toNatClampNeg p1) = some to) (hm : mX6_tablet_i t_cells t_sixties t_rows p1 p2 = some res) : Met l yX6_tablet wsX6_tablet rmX6_tablet_i (va_Pc [.ref xo, .int p1, .int p2] (kW D cI cT [(xo, .inr (3, [.ref wo, .ref x_tablets_a, .ref so, .ref x_steps_a, .int x_stepCount])), (x_tablets_a, .inl (cT, 4, .inr (.inr (.inr (.inr x_refs))))), (to, .inr (1, [.ref t_cells_a, .ref t_sixties_a, .int t_rows])), (t_cells_a, .inl (cI, 24, .inl t_cells)), (t_sixties_a, .inl (cI, 24, .inl t_sixties))] none (fun q => q ∈ ([xo, x_tablets_a, to, t_cells_a, t_sixties_a] : List Nat)))) (kX (some (.int res.1)) D [(xo, .inr (3, [.ref wo, .ref x_tablets_a, .ref so, .ref x_steps_a, .int x_stepCount])), (x_tablets_a, .inl (cT, 4, .inr (.inr (.inr (.inr x_refs))))), (to, .inr (1, [.ref t_cells_a, .ref t_sixties_a, .int res.2.2.2])), (t_cells_a, .inl (cI, 24, .inl res.2.1)), (t_sixties_a, .inl (cI, 24, .inl res.2.2.1))] (fun q => q ∈ ([xo, x_tablets_a, to, t_cells_a, t_sixties_a] : List Nat))) 0 0 (fun q => q ∈ ([xo, x_tablets_a, to, t_cells_a, t_sixties_a] : List Nat)) :=
  km (by decide) rfl (Nat.le_of_ble_eq_true rfl) (fun p e s m below meth c ls C hB hl => bX6_tablet_i C p1 p2 hB.1 hnd hti0 htr0 x_stepCount t_cells t_sixties t_rows res (fun v t_cells1 t_sixties1 t_rows1 H locs pc ls h hP hS hd => by obtain rfl := Option.some.inj h; exact kx_i C hP hS hd) hm s.heap [] hB.2.1 va_S.rf ls hl)
abbrev rmX6_tablet_o : Room := { frames := 1, cells := 0, slots := 0, locals := 21 }
def mX6_tablet_o (p1 : Int32) (p2 : Int32) : Option Int32 := (some (-1 : Int32))
set_option maxHeartbeats 4000000 in
set_option maxRecDepth 100000 in
theorem bX6_tablet_o {p : Program} {l : Launch} {e : Env} {s : State} {m : MethodId} {args : Array Value} {below : List Frame} {meth : Method} {c : Code} {Q : State → Prop} (C : kc p s m args meth c cX6_tablet 4 RX6 yX6_tablet.name wsX6_tablet (some .int)) {D : va_G} {cI cT : ClassId} {xo wo x_tablets_a so x_steps_a : Nat} {x_refs : Nat → Option Nat} (p1 : Int32) (p2 : Int32) (hK : va_K D vwCl (kTy cI cT) s) (hto0 : ¬ vp_in p1 4) (x_stepCount : Int32) (hP : va_P D vwCl [(xo, .inr (3, [.ref wo, .ref x_tablets_a, .ref so, .ref x_steps_a, .int x_stepCount])), (x_tablets_a, .inl (cT, 4, .inr (.inr (.inr (.inr x_refs)))))] s.heap) (res : Int32) (hQ : ∀ (v : Int32) (pc : Nat) (ls : Array Slot), some v = some res → decode cX6_tablet pc = .ok (.ireturn, 1) → W p l e rmX6_tablet_o s m args below meth c s.heap [] 0 0 Q (F0 m pc ls [.int v])) : mX6_tablet_o p1 p2 = some res → ∀ (ls : Array Slot), lv_has ls 4 [(0, .ref xo), (1, .int p1), (2, .int p2)] → W p l e rmX6_tablet_o s m args below meth c s.heap [] 0 0 Q (F0 m 0 ls []) := by
  intro h ls hl
  have C0 := C
  obtain ⟨hx, hb, hml, hown, hts, hr, hlk, hnm⟩ := C0
  rw [mX6_tablet_o] at h
  refine lv_aload_n hx hb dX6_tablet_0 rfl (lv_at hl 0 rfl) ?_
  refine lv_iload_n hx hb dX6_tablet_1 rfl (lv_at hl 1 rfl) ?_
  refine kV C (ctX6_clayOf_o l hto0) gX6_tablet_X6_clayOf rfl kdvX6_clayOf ⟨rfl, rfl⟩ ⟨by decide, by decide⟩ kW_blind (va_recv hK hP (ci := 3) (q0 := 0) rfl rfl) (kW_use hK (hP.sub (ws' := [(xo, .inr (3, [.ref wo, .ref x_tablets_a, .ref so, .ref x_steps_a, .int x_stepCount])), (x_tablets_a, .inl (cT, 4, .inr (.inr (.inr (.inr x_refs)))))]) [0, 1] rfl) kL_no) rfl hl [] rfl (Nat.le_of_ble_eq_true rfl) dX6_tablet_2 ⟨by decide, by decide⟩ ?_
  refine lv_astore_nN (lv' := [(3, .null), (0, .ref xo), (1, .int p1), (2, .int p2)]) hx hb dX6_tablet_5 rfl hl (by decide) rfl (fun ls hl => ?_)
  refine lv_aload_nN hx hb dX6_tablet_6 rfl (lv_at hl 0 rfl) ?_
  refine lv_ifnonnullN hx hb dX6_tablet_7 ?_
  refine lv_iconst (v := -1) hx hb dX6_tablet_10 (by decide) ?_
  exact hQ (-1 : Int32) 11 ls h dX6_tablet_11
set_option maxHeartbeats 4000000 in
theorem ctX6_tablet_o (l : Launch) {D : va_G} {cI cT : ClassId} {xo wo x_tablets_a so x_steps_a : Nat} {x_refs : Nat → Option Nat} {x_stepCount : Int32} {p1 : Int32} {p2 : Int32} {res : Int32} (hto0 : ¬ vp_in p1 4) (hm : mX6_tablet_o p1 p2 = some res) : Met l yX6_tablet wsX6_tablet rmX6_tablet_o (va_Pc [.ref xo, .int p1, .int p2] (kW D cI cT [(xo, .inr (3, [.ref wo, .ref x_tablets_a, .ref so, .ref x_steps_a, .int x_stepCount])), (x_tablets_a, .inl (cT, 4, .inr (.inr (.inr (.inr x_refs)))))] none (fun _ => False))) (kR (.int res)) 0 0 (fun _ => False) :=
  km (by decide) rfl (Nat.le_of_ble_eq_true rfl) (fun p e s m below meth c ls C hB hl => bX6_tablet_o C p1 p2 hB.1 hto0 x_stepCount hB.2.1 res (fun v pc ls h hd => kr_i C h hd) hm ls hl)
theorem wm_X6_press_i_0 : Cond.constant RX6 157 (12959999) ∈ wsX6_press := by decide +kernel
theorem kdvX6_press : yX6_press.cls = RX6 ∧ yX6_press.cls ≠ "java/lang/invoke/MethodHandle" ∧ yX6_press.cls ≠ "java/lang/invoke/VarHandle" ∧ (parseMethodDescriptor yX6_press.desc).map (fun d => d.parameters.length) = some 4 := by decide +kernel
abbrev rmX6_press_i : Room := { frames := 2, cells := 0, slots := 0, locals := 48 }
def mX6_press_i (t_cells : Nat → Int32) (t_sixties : Nat → Int32) (t_rows : Int32) (p1 : Int32) (p2 : Int32) (p3 : Int32) (p4 : Int32) : Option (Int32 × (Nat → Int32) × (Nat → Int32)) := (Option.bind (mX3_hasCell t_rows p2 p3) (fun u1 => (if u1 = 0 then (some ((-1 : Int32), t_cells, t_sixties)) else (if p4 < 0 then (some ((-2 : Int32), t_cells, t_sixties)) else (if p4 ≤ (12959999 : Int32) then (Option.bind (mX3_held t_cells p2 p3) (fun u5 => (Option.bind (mX3_hold t_cells t_sixties p2 p3 p4) (fun u6 => (some (u5, u6.1, u6.2)))))) else (some ((-2 : Int32), t_cells, t_sixties)))))))
set_option maxHeartbeats 4000000 in
set_option maxRecDepth 100000 in
theorem bX6_press_i {p : Program} {l : Launch} {e : Env} {s : State} {m : MethodId} {args : Array Value} {below : List Frame} {meth : Method} {c : Code} {Q : State → Prop} (C : kc p s m args meth c cX6_press 7 RX6 yX6_press.name wsX6_press (some .int)) {D : va_G} {cI cT : ClassId} {xo wo x_tablets_a so x_steps_a to t_cells_a t_sixties_a : Nat} {x_refs : Nat → Option Nat} (p1 : Int32) (p2 : Int32) (p3 : Int32) (p4 : Int32) (hK : va_K D vwCl (kTy cI cT) s) (hnd : ([xo, x_tablets_a, to, t_cells_a, t_sixties_a] : List Nat).Nodup) (hti0 : vp_in p1 4) (htr0 : x_refs (Int32.toNatClampNeg p1) = some to) (x_stepCount : Int32) (t_cells : Nat → Int32) (t_sixties : Nat → Int32) (t_rows : Int32) (res : (Int32 × (Nat → Int32) × (Nat → Int32))) (hQ : ∀ (v : Int32) (t_cells : Nat → Int32) (t_sixties : Nat → Int32) (H : Heap) (locs : List Loc) (pc : Nat) (ls : Array Slot), some (v, t_cells, t_sixties) = some res → va_P D vwCl [(xo, .inr (3, [.ref wo, .ref x_tablets_a, .ref so, .ref x_steps_a, .int x_stepCount])), (x_tablets_a, .inl (cT, 4, .inr (.inr (.inr (.inr x_refs))))), (to, .inr (1, [.ref t_cells_a, .ref t_sixties_a, .int t_rows])), (t_cells_a, .inl (cI, 24, .inl t_cells)), (t_sixties_a, .inl (cI, 24, .inl t_sixties))] H → va_S (fun q => q ∈ ([xo, x_tablets_a, to, t_cells_a, t_sixties_a] : List Nat)) s.heap H locs → decode cX6_press pc = .ok (.ireturn, 1) → W p l e rmX6_press_i s m args below meth c H locs 0 0 Q (F0 m pc ls [.int v])) : mX6_press_i t_cells t_sixties t_rows p1 p2 p3 p4 = some res → ∀ (H : Heap) (locs : List Loc), va_P D vwCl [(xo, .inr (3, [.ref wo, .ref x_tablets_a, .ref so, .ref x_steps_a, .int x_stepCount])), (x_tablets_a, .inl (cT, 4, .inr (.inr (.inr (.inr x_refs))))), (to, .inr (1, [.ref t_cells_a, .ref t_sixties_a, .int t_rows])), (t_cells_a, .inl (cI, 24, .inl t_cells)), (t_sixties_a, .inl (cI, 24, .inl t_sixties))] H → va_S (fun q => q ∈ ([xo, x_tablets_a, to, t_cells_a, t_sixties_a] : List Nat)) s.heap H locs → ∀ (ls : Array Slot), lv_has ls 7 [(0, .ref xo), (1, .int p1), (2, .int p2), (3, .int p3), (4, .int p4)] → W p l e rmX6_press_i s m args below meth c H locs 0 0 Q (F0 m 0 ls []) := by
  intro h H locs hP hS ls hl
  have C0 := C
  obtain ⟨hx, hb, hml, hown, hts, hr, hlk, hnm⟩ := C0
  rw [mX6_press_i] at h
  refine lv_aload_n hx hb dX6_press_0 rfl (lv_at hl 0 rfl) ?_
  refine lv_iload_n hx hb dX6_press_1 rfl (lv_at hl 1 rfl) ?_
  refine kV C (ctX6_clayOf_i l hti0 htr0) gX6_press_X6_clayOf rfl kdvX6_clayOf ⟨rfl, rfl⟩ ⟨by decide, by decide⟩ kW_blind (va_recv hK hP (ci := 3) (q0 := 0) rfl rfl) (kW_use hK (hP.sub (ws' := [(xo, .inr (3, [.ref wo, .ref x_tablets_a, .ref so, .ref x_steps_a, .int x_stepCount])), (x_tablets_a, .inl (cT, 4, .inr (.inr (.inr (.inr x_refs)))))]) [0, 1] rfl) kL_no) rfl hl [] rfl (Nat.le_of_ble_eq_true rfl) dX6_press_2 ⟨by decide, by decide⟩ ?_
  refine lv_astore (lv' := [(5, .ref to), (0, .ref xo), (1, .int p1), (2, .int p2), (3, .int p3), (4, .int p4)]) hx hb dX6_press_5 hl (by decide) rfl (fun ls hl => ?_)
  refine lv_aload hx hb dX6_press_7 (lv_at hl 0 rfl) ?_
  refine lv_ifnull hx hb dX6_press_9 ?_
  refine lv_aload hx hb dX6_press_12 (lv_at hl 0 rfl) ?_
  refine lv_iload_n hx hb dX6_press_14 rfl (lv_at hl 3 rfl) ?_
  refine lv_iload_n hx hb dX6_press_15 rfl (lv_at hl 4 rfl) ?_
  obtain ⟨u1, hu1, h⟩ := md_b h
  refine kV C (ctX3_hasCell l  hu1) gX6_press_X3_hasCell rfl kdvX3_hasCell ⟨rfl, rfl⟩ ⟨by decide, by decide⟩ kW_blind (va_recv hK hP (ci := 1) (q0 := 2) rfl rfl) (kW_use hK (hP.sub (ws' := [(to, .inr (1, [.ref t_cells_a, .ref t_sixties_a, .int t_rows])), (t_cells_a, .inl (cI, 24, .inl t_cells)), (t_sixties_a, .inl (cI, 24, .inl t_sixties))]) [2, 3, 4] rfl) kL_no) rfl hl [] rfl (Nat.le_of_ble_eq_true rfl) dX6_press_16 ⟨by decide, by decide⟩ ?_
  refine lv_if_ne (tgt := 24) hx hb dX6_press_19 (by decide) (fun c2 => ?_) (fun c2 => ?_)
  · replace h := md_f c2 h
    refine lv_iload hx hb dX6_press_24 (lv_at hl 5 rfl) ?_
    refine lv_if_lt (tgt := 36) hx hb dX6_press_26 (by decide) (fun c3 => ?_) (fun c3 => ?_)
    · replace h := md_t c3 h
      refine lv_bipush (v := -2) hx hb dX6_press_36 (by decide) ?_
      exact hQ (-2 : Int32) t_cells t_sixties H locs 38 ls h hP hS dX6_press_38
    replace h := md_f c3 h
    refine lv_iload hx hb dX6_press_29 (lv_at hl 5 rfl) ?_
    refine lv_ldc hx hb hown (hts _ wm_X6_press_i_0) dX6_press_31 ?_
    refine lv_icmp_le (tgt := 39) hx hb dX6_press_33 (by decide) (fun c4 => ?_) (fun c4 => ?_)
    · replace h := md_t c4 h
      refine lv_aload hx hb dX6_press_39 (lv_at hl 0 rfl) ?_
      refine lv_iload_n hx hb dX6_press_41 rfl (lv_at hl 3 rfl) ?_
      refine lv_iload_n hx hb dX6_press_42 rfl (lv_at hl 4 rfl) ?_
      obtain ⟨u5, hu5, h⟩ := md_b h
      refine kV C (ctX3_held l  hu5) gX6_press_X3_held rfl kdvX3_held ⟨rfl, rfl⟩ ⟨by decide, by decide⟩ kW_blind (va_recv hK hP (ci := 1) (q0 := 2) rfl rfl) (kW_use hK (hP.sub (ws' := [(to, .inr (1, [.ref t_cells_a, .ref t_sixties_a, .int t_rows])), (t_cells_a, .inl (cI, 24, .inl t_cells)), (t_sixties_a, .inl (cI, 24, .inl t_sixties))]) [2, 3, 4] rfl) kL_no) rfl hl [] rfl (Nat.le_of_ble_eq_true rfl) dX6_press_43 ⟨by decide, by decide⟩ ?_
      refine lv_istore (lv' := [(6, .int u5), (5, .ref to), (0, .ref xo), (1, .int p1), (2, .int p2), (3, .int p3), (4, .int p4)]) hx hb dX6_press_46 hl (by decide) rfl (fun ls hl => ?_)
      refine lv_aload hx hb dX6_press_48 (lv_at hl 1 rfl) ?_
      refine lv_iload_n hx hb dX6_press_50 rfl (lv_at hl 4 rfl) ?_
      refine lv_iload_n hx hb dX6_press_51 rfl (lv_at hl 5 rfl) ?_
      refine lv_iload hx hb dX6_press_52 (lv_at hl 6 rfl) ?_
      obtain ⟨u6, hu6, h⟩ := md_b h
      refine kVx C (ctX3_hold l (nd_sub hnd [2, 3, 4] (by decide) rfl) hu6) gX6_press_X3_hold rfl kdvX3_hold ⟨rfl, rfl⟩ ⟨by decide, by decide⟩ kW_blind (va_recv hK hP (ci := 1) (q0 := 2) rfl rfl) (kW_use hK (hP.sub (ws' := [(to, .inr (1, [.ref t_cells_a, .ref t_sixties_a, .int t_rows])), (t_cells_a, .inl (cI, 24, .inl t_cells)), (t_sixties_a, .inl (cI, 24, .inl t_sixties))]) [2, 3, 4] rfl) kL_no) rfl hl [] rfl (Nat.le_of_ble_eq_true rfl) dX6_press_54 ⟨by decide, by decide⟩ hS (mem_sub [2, 3, 4] rfl) (fun H1 locs hP1 hk1 hS => ?_)
      replace hP : va_P D vwCl [(xo, .inr (3, [.ref wo, .ref x_tablets_a, .ref so, .ref x_steps_a, .int x_stepCount])), (x_tablets_a, .inl (cT, 4, .inr (.inr (.inr (.inr x_refs))))), (to, .inr (1, [.ref t_cells_a, .ref t_sixties_a, .int t_rows])), (t_cells_a, .inl (cI, 24, .inl u6.1)), (t_sixties_a, .inl (cI, 24, .inl u6.2))] H1 := kjoin hnd rfl hP hP1 hk1 [2, 3, 4] rfl [(false, 0), (false, 1), (true, 0), (true, 1), (true, 2)] rfl rfl
      clear hP1 hk1
      generalize H1 = H at hP hS ⊢
      refine lv_iload hx hb dX6_press_57 (lv_at hl 0 rfl) ?_
      exact hQ u5 u6.1 u6.2 H locs 59 ls h hP hS dX6_press_59
    replace h := md_f c4 h
    refine lv_bipush (v := -2) hx hb dX6_press_36 (by decide) ?_
    exact hQ (-2 : Int32) t_cells t_sixties H locs 38 ls h hP hS dX6_press_38
  replace h := md_t c2 h
  refine lv_iconst (v := -1) hx hb dX6_press_22 (by decide) ?_
  exact hQ (-1 : Int32) t_cells t_sixties H locs 23 ls h hP hS dX6_press_23
set_option maxHeartbeats 4000000 in
theorem ctX6_press_i (l : Launch) {D : va_G} {cI cT : ClassId} {xo wo x_tablets_a so x_steps_a to t_cells_a t_sixties_a : Nat} {x_refs : Nat → Option Nat} {x_stepCount : Int32} {t_cells : Nat → Int32} {t_sixties : Nat → Int32} {t_rows : Int32} {p1 : Int32} {p2 : Int32} {p3 : Int32} {p4 : Int32} {res : (Int32 × (Nat → Int32) × (Nat → Int32))} (hnd : ([xo, x_tablets_a, to, t_cells_a, t_sixties_a] : List Nat).Nodup) (hti0 : vp_in p1 4) (htr0 : x_refs (Int32.toNatClampNeg p1) = some to) (hm : mX6_press_i t_cells t_sixties t_rows p1 p2 p3 p4 = some res) : Met l yX6_press wsX6_press rmX6_press_i (va_Pc [.ref xo, .int p1, .int p2, .int p3, .int p4] (kW D cI cT [(xo, .inr (3, [.ref wo, .ref x_tablets_a, .ref so, .ref x_steps_a, .int x_stepCount])), (x_tablets_a, .inl (cT, 4, .inr (.inr (.inr (.inr x_refs))))), (to, .inr (1, [.ref t_cells_a, .ref t_sixties_a, .int t_rows])), (t_cells_a, .inl (cI, 24, .inl t_cells)), (t_sixties_a, .inl (cI, 24, .inl t_sixties))] none (fun q => q ∈ ([xo, x_tablets_a, to, t_cells_a, t_sixties_a] : List Nat)))) (kX (some (.int res.1)) D [(xo, .inr (3, [.ref wo, .ref x_tablets_a, .ref so, .ref x_steps_a, .int x_stepCount])), (x_tablets_a, .inl (cT, 4, .inr (.inr (.inr (.inr x_refs))))), (to, .inr (1, [.ref t_cells_a, .ref t_sixties_a, .int t_rows])), (t_cells_a, .inl (cI, 24, .inl res.2.1)), (t_sixties_a, .inl (cI, 24, .inl res.2.2))] (fun q => q ∈ ([xo, x_tablets_a, to, t_cells_a, t_sixties_a] : List Nat))) 0 0 (fun q => q ∈ ([xo, x_tablets_a, to, t_cells_a, t_sixties_a] : List Nat)) :=
  km (by decide) rfl (Nat.le_of_ble_eq_true rfl) (fun p e s m below meth c ls C hB hl => bX6_press_i C p1 p2 p3 p4 hB.1 hnd hti0 htr0 x_stepCount t_cells t_sixties t_rows res (fun v t_cells1 t_sixties1 H locs pc ls h hP hS hd => by obtain rfl := Option.some.inj h; exact kx_i C hP hS hd) hm s.heap [] hB.2.1 va_S.rf ls hl)
abbrev rmX6_press_o : Room := { frames := 1, cells := 0, slots := 0, locals := 21 }
def mX6_press_o (p1 : Int32) (p2 : Int32) (p3 : Int32) (p4 : Int32) : Option Int32 := (some (-1 : Int32))
set_option maxHeartbeats 4000000 in
set_option maxRecDepth 100000 in
theorem bX6_press_o {p : Program} {l : Launch} {e : Env} {s : State} {m : MethodId} {args : Array Value} {below : List Frame} {meth : Method} {c : Code} {Q : State → Prop} (C : kc p s m args meth c cX6_press 7 RX6 yX6_press.name wsX6_press (some .int)) {D : va_G} {cI cT : ClassId} {xo wo x_tablets_a so x_steps_a : Nat} {x_refs : Nat → Option Nat} (p1 : Int32) (p2 : Int32) (p3 : Int32) (p4 : Int32) (hK : va_K D vwCl (kTy cI cT) s) (hto0 : ¬ vp_in p1 4) (x_stepCount : Int32) (hP : va_P D vwCl [(xo, .inr (3, [.ref wo, .ref x_tablets_a, .ref so, .ref x_steps_a, .int x_stepCount])), (x_tablets_a, .inl (cT, 4, .inr (.inr (.inr (.inr x_refs)))))] s.heap) (res : Int32) (hQ : ∀ (v : Int32) (pc : Nat) (ls : Array Slot), some v = some res → decode cX6_press pc = .ok (.ireturn, 1) → W p l e rmX6_press_o s m args below meth c s.heap [] 0 0 Q (F0 m pc ls [.int v])) : mX6_press_o p1 p2 p3 p4 = some res → ∀ (ls : Array Slot), lv_has ls 7 [(0, .ref xo), (1, .int p1), (2, .int p2), (3, .int p3), (4, .int p4)] → W p l e rmX6_press_o s m args below meth c s.heap [] 0 0 Q (F0 m 0 ls []) := by
  intro h ls hl
  have C0 := C
  obtain ⟨hx, hb, hml, hown, hts, hr, hlk, hnm⟩ := C0
  rw [mX6_press_o] at h
  refine lv_aload_n hx hb dX6_press_0 rfl (lv_at hl 0 rfl) ?_
  refine lv_iload_n hx hb dX6_press_1 rfl (lv_at hl 1 rfl) ?_
  refine kV C (ctX6_clayOf_o l hto0) gX6_press_X6_clayOf rfl kdvX6_clayOf ⟨rfl, rfl⟩ ⟨by decide, by decide⟩ kW_blind (va_recv hK hP (ci := 3) (q0 := 0) rfl rfl) (kW_use hK (hP.sub (ws' := [(xo, .inr (3, [.ref wo, .ref x_tablets_a, .ref so, .ref x_steps_a, .int x_stepCount])), (x_tablets_a, .inl (cT, 4, .inr (.inr (.inr (.inr x_refs)))))]) [0, 1] rfl) kL_no) rfl hl [] rfl (Nat.le_of_ble_eq_true rfl) dX6_press_2 ⟨by decide, by decide⟩ ?_
  refine lv_astoreN (lv' := [(5, .null), (0, .ref xo), (1, .int p1), (2, .int p2), (3, .int p3), (4, .int p4)]) hx hb dX6_press_5 hl (by decide) rfl (fun ls hl => ?_)
  refine lv_aloadN hx hb dX6_press_7 (lv_at hl 0 rfl) ?_
  refine lv_ifnullN (tgt := 22) hx hb dX6_press_9 (by decide) ?_
  refine lv_iconst (v := -1) hx hb dX6_press_22 (by decide) ?_
  exact hQ (-1 : Int32) 23 ls h dX6_press_23
set_option maxHeartbeats 4000000 in
theorem ctX6_press_o (l : Launch) {D : va_G} {cI cT : ClassId} {xo wo x_tablets_a so x_steps_a : Nat} {x_refs : Nat → Option Nat} {x_stepCount : Int32} {p1 : Int32} {p2 : Int32} {p3 : Int32} {p4 : Int32} {res : Int32} (hto0 : ¬ vp_in p1 4) (hm : mX6_press_o p1 p2 p3 p4 = some res) : Met l yX6_press wsX6_press rmX6_press_o (va_Pc [.ref xo, .int p1, .int p2, .int p3, .int p4] (kW D cI cT [(xo, .inr (3, [.ref wo, .ref x_tablets_a, .ref so, .ref x_steps_a, .int x_stepCount])), (x_tablets_a, .inl (cT, 4, .inr (.inr (.inr (.inr x_refs)))))] none (fun _ => False))) (kR (.int res)) 0 0 (fun _ => False) :=
  km (by decide) rfl (Nat.le_of_ble_eq_true rfl) (fun p e s m below meth c ls C hB hl => bX6_press_o C p1 p2 p3 p4 hB.1 hto0 x_stepCount hB.2.1 res (fun v pc ls h hd => kr_i C h hd) hm ls hl)
theorem kdvX6_cell : yX6_cell.cls = RX6 ∧ yX6_cell.cls ≠ "java/lang/invoke/MethodHandle" ∧ yX6_cell.cls ≠ "java/lang/invoke/VarHandle" ∧ (parseMethodDescriptor yX6_cell.desc).map (fun d => d.parameters.length) = some 3 := by decide +kernel
abbrev rmX6_cell_i : Room := { frames := 1, cells := 0, slots := 0, locals := 23 }
def mX6_cell_i (t_cells : Nat → Int32) (t_rows : Int32) (p1 : Int32) (p2 : Int32) (p3 : Int32) : Option Int32 := (Option.bind (mX3_hasCell t_rows p2 p3) (fun u1 => (if u1 = 0 then (some (-1 : Int32)) else (Option.bind (mX3_held t_cells p2 p3) (fun u3 => (some u3))))))
set_option maxHeartbeats 4000000 in
set_option maxRecDepth 100000 in
theorem bX6_cell_i {p : Program} {l : Launch} {e : Env} {s : State} {m : MethodId} {args : Array Value} {below : List Frame} {meth : Method} {c : Code} {Q : State → Prop} (C : kc p s m args meth c cX6_cell 5 RX6 yX6_cell.name wsX6_cell (some .int)) {D : va_G} {cI cT : ClassId} {xo wo x_tablets_a so x_steps_a to t_cells_a t_sixties_a : Nat} {x_refs : Nat → Option Nat} (p1 : Int32) (p2 : Int32) (p3 : Int32) (hK : va_K D vwCl (kTy cI cT) s) (hti0 : vp_in p1 4) (htr0 : x_refs (Int32.toNatClampNeg p1) = some to) (x_stepCount : Int32) (t_cells : Nat → Int32) (t_sixties : Nat → Int32) (t_rows : Int32) (hP : va_P D vwCl [(xo, .inr (3, [.ref wo, .ref x_tablets_a, .ref so, .ref x_steps_a, .int x_stepCount])), (x_tablets_a, .inl (cT, 4, .inr (.inr (.inr (.inr x_refs))))), (to, .inr (1, [.ref t_cells_a, .ref t_sixties_a, .int t_rows])), (t_cells_a, .inl (cI, 24, .inl t_cells)), (t_sixties_a, .inl (cI, 24, .inl t_sixties))] s.heap) (res : Int32) (hQ : ∀ (v : Int32) (pc : Nat) (ls : Array Slot), some v = some res → decode cX6_cell pc = .ok (.ireturn, 1) → W p l e rmX6_cell_i s m args below meth c s.heap [] 0 0 Q (F0 m pc ls [.int v])) : mX6_cell_i t_cells t_rows p1 p2 p3 = some res → ∀ (ls : Array Slot), lv_has ls 5 [(0, .ref xo), (1, .int p1), (2, .int p2), (3, .int p3)] → W p l e rmX6_cell_i s m args below meth c s.heap [] 0 0 Q (F0 m 0 ls []) := by
  intro h ls hl
  have C0 := C
  obtain ⟨hx, hb, hml, hown, hts, hr, hlk, hnm⟩ := C0
  rw [mX6_cell_i] at h
  refine lv_aload_n hx hb dX6_cell_0 rfl (lv_at hl 0 rfl) ?_
  refine lv_iload_n hx hb dX6_cell_1 rfl (lv_at hl 1 rfl) ?_
  refine kV C (ctX6_clayOf_i l hti0 htr0) gX6_cell_X6_clayOf rfl kdvX6_clayOf ⟨rfl, rfl⟩ ⟨by decide, by decide⟩ kW_blind (va_recv hK hP (ci := 3) (q0 := 0) rfl rfl) (kW_use hK (hP.sub (ws' := [(xo, .inr (3, [.ref wo, .ref x_tablets_a, .ref so, .ref x_steps_a, .int x_stepCount])), (x_tablets_a, .inl (cT, 4, .inr (.inr (.inr (.inr x_refs)))))]) [0, 1] rfl) kL_no) rfl hl [] rfl (Nat.le_of_ble_eq_true rfl) dX6_cell_2 ⟨by decide, by decide⟩ ?_
  refine lv_astore (lv' := [(4, .ref to), (0, .ref xo), (1, .int p1), (2, .int p2), (3, .int p3)]) hx hb dX6_cell_5 hl (by decide) rfl (fun ls hl => ?_)
  refine lv_aload hx hb dX6_cell_7 (lv_at hl 0 rfl) ?_
  refine lv_ifnull hx hb dX6_cell_9 ?_
  refine lv_aload hx hb dX6_cell_12 (lv_at hl 0 rfl) ?_
  refine lv_iload_n hx hb dX6_cell_14 rfl (lv_at hl 3 rfl) ?_
  refine lv_iload_n hx hb dX6_cell_15 rfl (lv_at hl 4 rfl) ?_
  obtain ⟨u1, hu1, h⟩ := md_b h
  refine kV C (ctX3_hasCell l  hu1) gX6_cell_X3_hasCell rfl kdvX3_hasCell ⟨rfl, rfl⟩ ⟨by decide, by decide⟩ kW_blind (va_recv hK hP (ci := 1) (q0 := 2) rfl rfl) (kW_use hK (hP.sub (ws' := [(to, .inr (1, [.ref t_cells_a, .ref t_sixties_a, .int t_rows])), (t_cells_a, .inl (cI, 24, .inl t_cells)), (t_sixties_a, .inl (cI, 24, .inl t_sixties))]) [2, 3, 4] rfl) kL_no) rfl hl [] rfl (Nat.le_of_ble_eq_true rfl) dX6_cell_16 ⟨by decide, by decide⟩ ?_
  refine lv_if_eq (tgt := 32) hx hb dX6_cell_19 (by decide) (fun c2 => ?_) (fun c2 => ?_)
  · replace h := md_t c2 h
    refine lv_iconst (v := -1) hx hb dX6_cell_32 (by decide) ?_
    exact hQ (-1 : Int32) 33 ls h dX6_cell_33
  replace h := md_f c2 h
  refine lv_aload hx hb dX6_cell_22 (lv_at hl 0 rfl) ?_
  refine lv_iload_n hx hb dX6_cell_24 rfl (lv_at hl 3 rfl) ?_
  refine lv_iload_n hx hb dX6_cell_25 rfl (lv_at hl 4 rfl) ?_
  obtain ⟨u3, hu3, h⟩ := md_b h
  refine kV C (ctX3_held l  hu3) gX6_cell_X3_held rfl kdvX3_held ⟨rfl, rfl⟩ ⟨by decide, by decide⟩ kW_blind (va_recv hK hP (ci := 1) (q0 := 2) rfl rfl) (kW_use hK (hP.sub (ws' := [(to, .inr (1, [.ref t_cells_a, .ref t_sixties_a, .int t_rows])), (t_cells_a, .inl (cI, 24, .inl t_cells)), (t_sixties_a, .inl (cI, 24, .inl t_sixties))]) [2, 3, 4] rfl) kL_no) rfl hl [] rfl (Nat.le_of_ble_eq_true rfl) dX6_cell_26 ⟨by decide, by decide⟩ ?_
  refine lv_goto (tgt := 33) hx hb dX6_cell_29 (by decide) ?_
  exact hQ u3 33 ls h dX6_cell_33
set_option maxHeartbeats 4000000 in
theorem ctX6_cell_i (l : Launch) {D : va_G} {cI cT : ClassId} {xo wo x_tablets_a so x_steps_a to t_cells_a t_sixties_a : Nat} {x_refs : Nat → Option Nat} {x_stepCount : Int32} {t_cells : Nat → Int32} {t_sixties : Nat → Int32} {t_rows : Int32} {p1 : Int32} {p2 : Int32} {p3 : Int32} {res : Int32} (hti0 : vp_in p1 4) (htr0 : x_refs (Int32.toNatClampNeg p1) = some to) (hm : mX6_cell_i t_cells t_rows p1 p2 p3 = some res) : Met l yX6_cell wsX6_cell rmX6_cell_i (va_Pc [.ref xo, .int p1, .int p2, .int p3] (kW D cI cT [(xo, .inr (3, [.ref wo, .ref x_tablets_a, .ref so, .ref x_steps_a, .int x_stepCount])), (x_tablets_a, .inl (cT, 4, .inr (.inr (.inr (.inr x_refs))))), (to, .inr (1, [.ref t_cells_a, .ref t_sixties_a, .int t_rows])), (t_cells_a, .inl (cI, 24, .inl t_cells)), (t_sixties_a, .inl (cI, 24, .inl t_sixties))] none (fun _ => False))) (kR (.int res)) 0 0 (fun _ => False) :=
  km (by decide) rfl (Nat.le_of_ble_eq_true rfl) (fun p e s m below meth c ls C hB hl => bX6_cell_i C p1 p2 p3 hB.1 hti0 htr0 x_stepCount t_cells t_sixties t_rows hB.2.1 res (fun v pc ls h hd => kr_i C h hd) hm ls hl)
abbrev rmX6_cell_o : Room := { frames := 1, cells := 0, slots := 0, locals := 21 }
def mX6_cell_o (p1 : Int32) (p2 : Int32) (p3 : Int32) : Option Int32 := (some (-1 : Int32))
set_option maxHeartbeats 4000000 in
set_option maxRecDepth 100000 in
theorem bX6_cell_o {p : Program} {l : Launch} {e : Env} {s : State} {m : MethodId} {args : Array Value} {below : List Frame} {meth : Method} {c : Code} {Q : State → Prop} (C : kc p s m args meth c cX6_cell 5 RX6 yX6_cell.name wsX6_cell (some .int)) {D : va_G} {cI cT : ClassId} {xo wo x_tablets_a so x_steps_a : Nat} {x_refs : Nat → Option Nat} (p1 : Int32) (p2 : Int32) (p3 : Int32) (hK : va_K D vwCl (kTy cI cT) s) (hto0 : ¬ vp_in p1 4) (x_stepCount : Int32) (hP : va_P D vwCl [(xo, .inr (3, [.ref wo, .ref x_tablets_a, .ref so, .ref x_steps_a, .int x_stepCount])), (x_tablets_a, .inl (cT, 4, .inr (.inr (.inr (.inr x_refs)))))] s.heap) (res : Int32) (hQ : ∀ (v : Int32) (pc : Nat) (ls : Array Slot), some v = some res → decode cX6_cell pc = .ok (.ireturn, 1) → W p l e rmX6_cell_o s m args below meth c s.heap [] 0 0 Q (F0 m pc ls [.int v])) : mX6_cell_o p1 p2 p3 = some res → ∀ (ls : Array Slot), lv_has ls 5 [(0, .ref xo), (1, .int p1), (2, .int p2), (3, .int p3)] → W p l e rmX6_cell_o s m args below meth c s.heap [] 0 0 Q (F0 m 0 ls []) := by
  intro h ls hl
  have C0 := C
  obtain ⟨hx, hb, hml, hown, hts, hr, hlk, hnm⟩ := C0
  rw [mX6_cell_o] at h
  refine lv_aload_n hx hb dX6_cell_0 rfl (lv_at hl 0 rfl) ?_
  refine lv_iload_n hx hb dX6_cell_1 rfl (lv_at hl 1 rfl) ?_
  refine kV C (ctX6_clayOf_o l hto0) gX6_cell_X6_clayOf rfl kdvX6_clayOf ⟨rfl, rfl⟩ ⟨by decide, by decide⟩ kW_blind (va_recv hK hP (ci := 3) (q0 := 0) rfl rfl) (kW_use hK (hP.sub (ws' := [(xo, .inr (3, [.ref wo, .ref x_tablets_a, .ref so, .ref x_steps_a, .int x_stepCount])), (x_tablets_a, .inl (cT, 4, .inr (.inr (.inr (.inr x_refs)))))]) [0, 1] rfl) kL_no) rfl hl [] rfl (Nat.le_of_ble_eq_true rfl) dX6_cell_2 ⟨by decide, by decide⟩ ?_
  refine lv_astoreN (lv' := [(4, .null), (0, .ref xo), (1, .int p1), (2, .int p2), (3, .int p3)]) hx hb dX6_cell_5 hl (by decide) rfl (fun ls hl => ?_)
  refine lv_aloadN hx hb dX6_cell_7 (lv_at hl 0 rfl) ?_
  refine lv_ifnullN (tgt := 32) hx hb dX6_cell_9 (by decide) ?_
  refine lv_iconst (v := -1) hx hb dX6_cell_32 (by decide) ?_
  exact hQ (-1 : Int32) 33 ls h dX6_cell_33
set_option maxHeartbeats 4000000 in
theorem ctX6_cell_o (l : Launch) {D : va_G} {cI cT : ClassId} {xo wo x_tablets_a so x_steps_a : Nat} {x_refs : Nat → Option Nat} {x_stepCount : Int32} {p1 : Int32} {p2 : Int32} {p3 : Int32} {res : Int32} (hto0 : ¬ vp_in p1 4) (hm : mX6_cell_o p1 p2 p3 = some res) : Met l yX6_cell wsX6_cell rmX6_cell_o (va_Pc [.ref xo, .int p1, .int p2, .int p3] (kW D cI cT [(xo, .inr (3, [.ref wo, .ref x_tablets_a, .ref so, .ref x_steps_a, .int x_stepCount])), (x_tablets_a, .inl (cT, 4, .inr (.inr (.inr (.inr x_refs)))))] none (fun _ => False))) (kR (.int res)) 0 0 (fun _ => False) :=
  km (by decide) rfl (Nat.le_of_ble_eq_true rfl) (fun p e s m below meth c ls C hB hl => bX6_cell_o C p1 p2 p3 hB.1 hto0 x_stepCount hB.2.1 res (fun v pc ls h hd => kr_i C h hd) hm ls hl)
theorem kdvX6_copy : yX6_copy.cls = RX6 ∧ yX6_copy.cls ≠ "java/lang/invoke/MethodHandle" ∧ yX6_copy.cls ≠ "java/lang/invoke/VarHandle" ∧ (parseMethodDescriptor yX6_copy.desc).map (fun d => d.parameters.length) = some 5 := by decide +kernel
abbrev rmX6_copy_i : Room := { frames := 2, cells := 0, slots := 0, locals := 48 }
def mlX6_copy_i_78 (x2 : Int32) (x3 : Int32) (x4 : Int32) (x7 : Int32) (kE : (Nat → Int32) → (Nat → Int32) → Option (Int32 × (Nat → Int32) × (Nat → Int32) × Int32)) : Nat → Int32 → (Nat → Int32) → (Nat → Int32) → Option (Int32 × (Nat → Int32) × (Nat → Int32) × Int32)
  | 0, _, _, _ => none
  | n + 1, x8, t_cells, t_sixties => (if (3 : Int32) ≤ x8 then (kE t_cells t_sixties) else (Option.bind (mX2_number x2 x3 (x4 + x7) x8) (fun u11 => (Option.bind (mX3_hold t_cells t_sixties x7 x8 u11) (fun u12 => (md_let (x8 + (1 : Int32)) (fun (x8_13 : Int32) => (mlX6_copy_i_78 x2 x3 x4 x7 kE n x8_13 u12.1 u12.2))))))))
set_option maxHeartbeats 4000000 in
set_option maxRecDepth 100000 in
theorem lX6_copy_i_78 {p : Program} {l : Launch} {e : Env} {s : State} {m : MethodId} {args : Array Value} {below : List Frame} {meth : Method} {c : Code} {Q : State → Prop} (C : kc p s m args meth c cX6_copy 9 RX6 yX6_copy.name wsX6_copy (some .int)) {D : va_G} {cI cT : ClassId} {xo wo x_tablets_a so x_steps_a to t_cells_a t_sixties_a : Nat} {x_refs : Nat → Option Nat} {aL : Nat × Nat} (hK : va_K D vwCl (kTy cI cT) s) (hLz : kLz aL (fun q => q ∈ ([xo, x_tablets_a, to, t_cells_a, t_sixties_a] : List Nat)) s s.heap) (hnd : ([xo, x_tablets_a, to, t_cells_a, t_sixties_a] : List Nat).Nodup) (x2 : Int32) (x3 : Int32) (x4 : Int32) (x5 : Int32) (x7 : Int32) (x_stepCount : Int32) (t_rows : Int32) (res : (Int32 × (Nat → Int32) × (Nat → Int32) × Int32)) (hQ : ∀ (v : Int32) (t_cells : Nat → Int32) (t_sixties : Nat → Int32) (t_rows : Int32) (H : Heap) (locs : List Loc) (pc : Nat) (ls : Array Slot), some (v, t_cells, t_sixties, t_rows) = some res → va_P D vwCl [(xo, .inr (3, [.ref wo, .ref x_tablets_a, .ref so, .ref x_steps_a, .int x_stepCount])), (x_tablets_a, .inl (cT, 4, .inr (.inr (.inr (.inr x_refs))))), (to, .inr (1, [.ref t_cells_a, .ref t_sixties_a, .int t_rows])), (t_cells_a, .inl (cI, 24, .inl t_cells)), (t_sixties_a, .inl (cI, 24, .inl t_sixties))] H → va_S (fun q => q ∈ ([xo, x_tablets_a, to, t_cells_a, t_sixties_a] : List Nat)) s.heap H locs → decode cX6_copy pc = .ok (.ireturn, 1) → W p l e rmX6_copy_i s m args below meth c H locs 0 0 Q (F0 m pc ls [.int v])) (kE : (Nat → Int32) → (Nat → Int32) → Option (Int32 × (Nat → Int32) × (Nat → Int32) × Int32)) (hE : ∀ (t_cells : Nat → Int32) (t_sixties : Nat → Int32), kE t_cells t_sixties = some res → ∀ (H : Heap) (locs : List Loc), va_P D vwCl [(xo, .inr (3, [.ref wo, .ref x_tablets_a, .ref so, .ref x_steps_a, .int x_stepCount])), (x_tablets_a, .inl (cT, 4, .inr (.inr (.inr (.inr x_refs))))), (to, .inr (1, [.ref t_cells_a, .ref t_sixties_a, .int t_rows])), (t_cells_a, .inl (cI, 24, .inl t_cells)), (t_sixties_a, .inl (cI, 24, .inl t_sixties))] H → va_S (fun q => q ∈ ([xo, x_tablets_a, to, t_cells_a, t_sixties_a] : List Nat)) s.heap H locs → ∀ (ls : Array Slot), lv_has ls 9 [(2, .int x2), (3, .int x3), (4, .int x4), (5, .int x5), (6, .ref to), (7, .int x7)] → W p l e rmX6_copy_i s m args below meth c H locs 0 0 Q (F0 m 111 ls [])) : ∀ (n : Nat), ∀ (x8 : Int32) (t_cells : Nat → Int32) (t_sixties : Nat → Int32), mlX6_copy_i_78 x2 x3 x4 x7 kE n x8 t_cells t_sixties = some res → ∀ (H : Heap) (locs : List Loc), va_P D vwCl [(xo, .inr (3, [.ref wo, .ref x_tablets_a, .ref so, .ref x_steps_a, .int x_stepCount])), (x_tablets_a, .inl (cT, 4, .inr (.inr (.inr (.inr x_refs))))), (to, .inr (1, [.ref t_cells_a, .ref t_sixties_a, .int t_rows])), (t_cells_a, .inl (cI, 24, .inl t_cells)), (t_sixties_a, .inl (cI, 24, .inl t_sixties))] H → va_S (fun q => q ∈ ([xo, x_tablets_a, to, t_cells_a, t_sixties_a] : List Nat)) s.heap H locs → ∀ (ls : Array Slot), lv_has ls 9 [(2, .int x2), (3, .int x3), (4, .int x4), (5, .int x5), (6, .ref to), (7, .int x7), (8, .int x8)] → W p l e rmX6_copy_i s m args below meth c H locs 0 0 Q (F0 m 78 ls []) := by
  have C0 := C
  obtain ⟨hx, hb, hml, hown, hts, hr, hlk, hnm⟩ := C0
  intro n
  induction n with
  | zero => intro _ _ _ h; exact md_x h
  | succ n ih =>
    intro x8 t_cells t_sixties h H locs hP hS ls hl
    rw [mlX6_copy_i_78] at h
    refine lv_iload hx hb dX6_copy_78 (lv_at hl 6 rfl) ?_
    refine lv_iconst (v := 3) hx hb dX6_copy_80 (by decide) ?_
    refine lv_icmp_ge (tgt := 111) hx hb dX6_copy_81 (by decide) (fun c10 => ?_) (fun c10 => ?_)
    · replace h := md_t c10 h
      exact hE t_cells t_sixties h _ _ hP hS ls (lv_sub hl [0, 1, 2, 3, 4, 5] rfl)
    replace h := md_f c10 h
    refine lv_aload hx hb dX6_copy_84 (lv_at hl 4 rfl) ?_
    refine lv_iload hx hb dX6_copy_86 (lv_at hl 5 rfl) ?_
    refine lv_iload hx hb dX6_copy_88 (lv_at hl 6 rfl) ?_
    refine lv_iload_n hx hb dX6_copy_90 rfl (lv_at hl 0 rfl) ?_
    refine lv_iload_n hx hb dX6_copy_91 rfl (lv_at hl 1 rfl) ?_
    refine lv_iload hx hb dX6_copy_92 (lv_at hl 2 rfl) ?_
    refine lv_iload hx hb dX6_copy_94 (lv_at hl 5 rfl) ?_
    refine lv_iadd hx hb dX6_copy_96 ?_
    refine lv_iload hx hb dX6_copy_97 (lv_at hl 6 rfl) ?_
    obtain ⟨u11, hu11, h⟩ := md_b h
    refine kS C (ctX2_number l  hu11) gX6_copy_X2_number rfl kdX2_number ⟨rfl, rfl⟩ ⟨by decide, by decide⟩ kW_blind (kW_use hK va_P0 (kL_at hLz hS (fun _ q => q.elim))) rfl hl [.int x8, .int x7, .ref to] rfl (Nat.le_of_ble_eq_true rfl) dX6_copy_99 ⟨by decide, by decide⟩ ?_
    obtain ⟨u12, hu12, h⟩ := md_b h
    refine kVx C (ctX3_hold l (nd_sub hnd [2, 3, 4] (by decide) rfl) hu12) gX6_copy_X3_hold rfl kdvX3_hold ⟨rfl, rfl⟩ ⟨by decide, by decide⟩ kW_blind (va_recv hK hP (ci := 1) (q0 := 2) rfl rfl) (kW_use hK (hP.sub (ws' := [(to, .inr (1, [.ref t_cells_a, .ref t_sixties_a, .int t_rows])), (t_cells_a, .inl (cI, 24, .inl t_cells)), (t_sixties_a, .inl (cI, 24, .inl t_sixties))]) [2, 3, 4] rfl) kL_no) rfl hl [] rfl (Nat.le_of_ble_eq_true rfl) dX6_copy_102 ⟨by decide, by decide⟩ hS (mem_sub [2, 3, 4] rfl) (fun H1 locs hP1 hk1 hS => ?_)
    replace hP : va_P D vwCl [(xo, .inr (3, [.ref wo, .ref x_tablets_a, .ref so, .ref x_steps_a, .int x_stepCount])), (x_tablets_a, .inl (cT, 4, .inr (.inr (.inr (.inr x_refs))))), (to, .inr (1, [.ref t_cells_a, .ref t_sixties_a, .int t_rows])), (t_cells_a, .inl (cI, 24, .inl u12.1)), (t_sixties_a, .inl (cI, 24, .inl u12.2))] H1 := kjoin hnd rfl hP hP1 hk1 [2, 3, 4] rfl [(false, 0), (false, 1), (true, 0), (true, 1), (true, 2)] rfl rfl
    clear hP1 hk1
    generalize H1 = H at hP hS ⊢
    obtain ⟨x8_13, ex8_13⟩ : ∃ y : Int32, y = (x8 + (1 : Int32)) := ⟨_, rfl⟩
    replace h := md_le ex8_13 h
    refine lv_iinc (v := x8_13) (lv' := [(8, .int x8_13), (2, .int x2), (3, .int x3), (4, .int x4), (5, .int x5), (6, .ref to), (7, .int x7)]) hx hb dX6_copy_105 hl (k := 6) rfl (by rw [ex8_13]; rfl) (by decide) rfl (fun ls hl => ?_)
    refine lv_goto (tgt := 78) hx hb dX6_copy_108 (by decide) ?_
    exact ih x8_13 u12.1 u12.2 h _ _ hP hS ls (lv_sub hl [1, 2, 3, 4, 5, 6, 0] rfl)
def mlX6_copy_i_68 (x2 : Int32) (x3 : Int32) (x4 : Int32) (x5 : Int32) (kE : (Nat → Int32) → (Nat → Int32) → Option (Int32 × (Nat → Int32) × (Nat → Int32) × Int32)) : Nat → Int32 → (Nat → Int32) → (Nat → Int32) → Option (Int32 × (Nat → Int32) × (Nat → Int32) × Int32)
  | 0, _, _, _ => none
  | n + 1, x7, t_cells, t_sixties => (if x5 ≤ x7 then (kE t_cells t_sixties) else (mlX6_copy_i_78 x2 x3 x4 x7 (fun (t_cells_111 : Nat → Int32) (t_sixties_111 : Nat → Int32) => (md_let (x7 + (1 : Int32)) (fun (x7_14 : Int32) => (mlX6_copy_i_68 x2 x3 x4 x5 kE n x7_14 t_cells_111 t_sixties_111)))) kN (0 : Int32) t_cells t_sixties))
set_option maxHeartbeats 4000000 in
set_option maxRecDepth 100000 in
theorem lX6_copy_i_68 {p : Program} {l : Launch} {e : Env} {s : State} {m : MethodId} {args : Array Value} {below : List Frame} {meth : Method} {c : Code} {Q : State → Prop} (C : kc p s m args meth c cX6_copy 9 RX6 yX6_copy.name wsX6_copy (some .int)) {D : va_G} {cI cT : ClassId} {xo wo x_tablets_a so x_steps_a to t_cells_a t_sixties_a : Nat} {x_refs : Nat → Option Nat} {aL : Nat × Nat} (hK : va_K D vwCl (kTy cI cT) s) (hLz : kLz aL (fun q => q ∈ ([xo, x_tablets_a, to, t_cells_a, t_sixties_a] : List Nat)) s s.heap) (hnd : ([xo, x_tablets_a, to, t_cells_a, t_sixties_a] : List Nat).Nodup) (x2 : Int32) (x3 : Int32) (x4 : Int32) (x5 : Int32) (x_stepCount : Int32) (t_rows : Int32) (res : (Int32 × (Nat → Int32) × (Nat → Int32) × Int32)) (hQ : ∀ (v : Int32) (t_cells : Nat → Int32) (t_sixties : Nat → Int32) (t_rows : Int32) (H : Heap) (locs : List Loc) (pc : Nat) (ls : Array Slot), some (v, t_cells, t_sixties, t_rows) = some res → va_P D vwCl [(xo, .inr (3, [.ref wo, .ref x_tablets_a, .ref so, .ref x_steps_a, .int x_stepCount])), (x_tablets_a, .inl (cT, 4, .inr (.inr (.inr (.inr x_refs))))), (to, .inr (1, [.ref t_cells_a, .ref t_sixties_a, .int t_rows])), (t_cells_a, .inl (cI, 24, .inl t_cells)), (t_sixties_a, .inl (cI, 24, .inl t_sixties))] H → va_S (fun q => q ∈ ([xo, x_tablets_a, to, t_cells_a, t_sixties_a] : List Nat)) s.heap H locs → decode cX6_copy pc = .ok (.ireturn, 1) → W p l e rmX6_copy_i s m args below meth c H locs 0 0 Q (F0 m pc ls [.int v])) (kE : (Nat → Int32) → (Nat → Int32) → Option (Int32 × (Nat → Int32) × (Nat → Int32) × Int32)) (hE : ∀ (t_cells : Nat → Int32) (t_sixties : Nat → Int32), kE t_cells t_sixties = some res → ∀ (H : Heap) (locs : List Loc), va_P D vwCl [(xo, .inr (3, [.ref wo, .ref x_tablets_a, .ref so, .ref x_steps_a, .int x_stepCount])), (x_tablets_a, .inl (cT, 4, .inr (.inr (.inr (.inr x_refs))))), (to, .inr (1, [.ref t_cells_a, .ref t_sixties_a, .int t_rows])), (t_cells_a, .inl (cI, 24, .inl t_cells)), (t_sixties_a, .inl (cI, 24, .inl t_sixties))] H → va_S (fun q => q ∈ ([xo, x_tablets_a, to, t_cells_a, t_sixties_a] : List Nat)) s.heap H locs → ∀ (ls : Array Slot), lv_has ls 9 [(5, .int x5)] → W p l e rmX6_copy_i s m args below meth c H locs 0 0 Q (F0 m 117 ls [])) : ∀ (n : Nat), ∀ (x7 : Int32) (t_cells : Nat → Int32) (t_sixties : Nat → Int32), mlX6_copy_i_68 x2 x3 x4 x5 kE n x7 t_cells t_sixties = some res → ∀ (H : Heap) (locs : List Loc), va_P D vwCl [(xo, .inr (3, [.ref wo, .ref x_tablets_a, .ref so, .ref x_steps_a, .int x_stepCount])), (x_tablets_a, .inl (cT, 4, .inr (.inr (.inr (.inr x_refs))))), (to, .inr (1, [.ref t_cells_a, .ref t_sixties_a, .int t_rows])), (t_cells_a, .inl (cI, 24, .inl t_cells)), (t_sixties_a, .inl (cI, 24, .inl t_sixties))] H → va_S (fun q => q ∈ ([xo, x_tablets_a, to, t_cells_a, t_sixties_a] : List Nat)) s.heap H locs → ∀ (ls : Array Slot), lv_has ls 9 [(2, .int x2), (3, .int x3), (4, .int x4), (5, .int x5), (6, .ref to), (7, .int x7)] → W p l e rmX6_copy_i s m args below meth c H locs 0 0 Q (F0 m 68 ls []) := by
  have C0 := C
  obtain ⟨hx, hb, hml, hown, hts, hr, hlk, hnm⟩ := C0
  intro n
  induction n with
  | zero => intro _ _ _ h; exact md_x h
  | succ n ih =>
    intro x7 t_cells t_sixties h H locs hP hS ls hl
    rw [mlX6_copy_i_68] at h
    refine lv_iload hx hb dX6_copy_68 (lv_at hl 5 rfl) ?_
    refine lv_iload hx hb dX6_copy_70 (lv_at hl 3 rfl) ?_
    refine lv_icmp_ge (tgt := 117) hx hb dX6_copy_72 (by decide) (fun c9 => ?_) (fun c9 => ?_)
    · replace h := md_t c9 h
      exact hE t_cells t_sixties h _ _ hP hS ls (lv_sub hl [3] rfl)
    replace h := md_f c9 h
    refine lv_iconst (v := 0) hx hb dX6_copy_75 (by decide) ?_
    refine lv_istore (lv' := [(8, .int (0 : Int32)), (2, .int x2), (3, .int x3), (4, .int x4), (5, .int x5), (6, .ref to), (7, .int x7)]) hx hb dX6_copy_76 hl (by decide) rfl (fun ls hl => ?_)
    refine lX6_copy_i_78 (xo := xo) (wo := wo) (x_tablets_a := x_tablets_a) (so := so) (x_steps_a := x_steps_a) (to := to) (t_cells_a := t_cells_a) (t_sixties_a := t_sixties_a) C hK hLz hnd x2 x3 x4 x5 x7 x_stepCount t_rows res hQ _ (fun t_cells_111 t_sixties_111 h H locs hP hS ls hl => ?_) kN (0 : Int32) t_cells t_sixties h _ _ hP hS ls (lv_sub hl [1, 2, 3, 4, 5, 6, 0] rfl)
    obtain ⟨x7_14, ex7_14⟩ : ∃ y : Int32, y = (x7 + (1 : Int32)) := ⟨_, rfl⟩
    replace h := md_le ex7_14 h
    refine lv_iinc (v := x7_14) (lv' := [(7, .int x7_14), (2, .int x2), (3, .int x3), (4, .int x4), (5, .int x5), (6, .ref to)]) hx hb dX6_copy_111 hl (k := 5) rfl (by rw [ex7_14]; rfl) (by decide) rfl (fun ls hl => ?_)
    refine lv_goto (tgt := 68) hx hb dX6_copy_114 (by decide) ?_
    exact ih x7_14 t_cells_111 t_sixties_111 h _ _ hP hS ls (lv_sub hl [1, 2, 3, 4, 5, 0] rfl)
def mX6_copy_i (t_cells : Nat → Int32) (t_sixties : Nat → Int32) (t_rows : Int32) (p1 : Int32) (p2 : Int32) (p3 : Int32) (p4 : Int32) (p5 : Int32) : Option (Int32 × (Nat → Int32) × (Nat → Int32) × Int32) := (Option.bind (mX2_isTable p2 p3) (fun u1 => (if u1 = 0 then (some ((-2 : Int32), t_cells, t_sixties, t_rows)) else (if p5 < (1 : Int32) then (some ((-2 : Int32), t_cells, t_sixties, t_rows)) else (if p5 ≤ (8 : Int32) then (if p4 < 0 then (some ((-5 : Int32), t_cells, t_sixties, t_rows)) else (Option.bind (mX2_rowsOf p2) (fun u6 => (if p4 ≤ (u6 - p5) then (Option.bind (mX3_smooth t_cells t_sixties p5) (fun u8 => (mlX6_copy_i_68 p2 p3 p4 p5 (fun (t_cells_117 : Nat → Int32) (t_sixties_117 : Nat → Int32) => (some (p5, t_cells_117, t_sixties_117, u8.2.2))) kN (0 : Int32) u8.1 u8.2.1))) else (some ((-5 : Int32), t_cells, t_sixties, t_rows)))))) else (some ((-2 : Int32), t_cells, t_sixties, t_rows)))))))
set_option maxHeartbeats 4000000 in
set_option maxRecDepth 100000 in
theorem bX6_copy_i {p : Program} {l : Launch} {e : Env} {s : State} {m : MethodId} {args : Array Value} {below : List Frame} {meth : Method} {c : Code} {Q : State → Prop} (C : kc p s m args meth c cX6_copy 9 RX6 yX6_copy.name wsX6_copy (some .int)) {D : va_G} {cI cT : ClassId} {xo wo x_tablets_a so x_steps_a to t_cells_a t_sixties_a : Nat} {x_refs : Nat → Option Nat} {aL : Nat × Nat} (p1 : Int32) (p2 : Int32) (p3 : Int32) (p4 : Int32) (p5 : Int32) (hK : va_K D vwCl (kTy cI cT) s) (hLz : kLz aL (fun q => q ∈ ([xo, x_tablets_a, to, t_cells_a, t_sixties_a] : List Nat)) s s.heap) (hnd : ([xo, x_tablets_a, to, t_cells_a, t_sixties_a] : List Nat).Nodup) (hti0 : vp_in p1 4) (htr0 : x_refs (Int32.toNatClampNeg p1) = some to) (x_stepCount : Int32) (t_cells : Nat → Int32) (t_sixties : Nat → Int32) (t_rows : Int32) (res : (Int32 × (Nat → Int32) × (Nat → Int32) × Int32)) (hQ : ∀ (v : Int32) (t_cells : Nat → Int32) (t_sixties : Nat → Int32) (t_rows : Int32) (H : Heap) (locs : List Loc) (pc : Nat) (ls : Array Slot), some (v, t_cells, t_sixties, t_rows) = some res → va_P D vwCl [(xo, .inr (3, [.ref wo, .ref x_tablets_a, .ref so, .ref x_steps_a, .int x_stepCount])), (x_tablets_a, .inl (cT, 4, .inr (.inr (.inr (.inr x_refs))))), (to, .inr (1, [.ref t_cells_a, .ref t_sixties_a, .int t_rows])), (t_cells_a, .inl (cI, 24, .inl t_cells)), (t_sixties_a, .inl (cI, 24, .inl t_sixties))] H → va_S (fun q => q ∈ ([xo, x_tablets_a, to, t_cells_a, t_sixties_a] : List Nat)) s.heap H locs → decode cX6_copy pc = .ok (.ireturn, 1) → W p l e rmX6_copy_i s m args below meth c H locs 0 0 Q (F0 m pc ls [.int v])) : mX6_copy_i t_cells t_sixties t_rows p1 p2 p3 p4 p5 = some res → ∀ (H : Heap) (locs : List Loc), va_P D vwCl [(xo, .inr (3, [.ref wo, .ref x_tablets_a, .ref so, .ref x_steps_a, .int x_stepCount])), (x_tablets_a, .inl (cT, 4, .inr (.inr (.inr (.inr x_refs))))), (to, .inr (1, [.ref t_cells_a, .ref t_sixties_a, .int t_rows])), (t_cells_a, .inl (cI, 24, .inl t_cells)), (t_sixties_a, .inl (cI, 24, .inl t_sixties))] H → va_S (fun q => q ∈ ([xo, x_tablets_a, to, t_cells_a, t_sixties_a] : List Nat)) s.heap H locs → ∀ (ls : Array Slot), lv_has ls 9 [(0, .ref xo), (1, .int p1), (2, .int p2), (3, .int p3), (4, .int p4), (5, .int p5)] → W p l e rmX6_copy_i s m args below meth c H locs 0 0 Q (F0 m 0 ls []) := by
  intro h H locs hP hS ls hl
  have C0 := C
  obtain ⟨hx, hb, hml, hown, hts, hr, hlk, hnm⟩ := C0
  rw [mX6_copy_i] at h
  refine lv_aload_n hx hb dX6_copy_0 rfl (lv_at hl 0 rfl) ?_
  refine lv_iload_n hx hb dX6_copy_1 rfl (lv_at hl 1 rfl) ?_
  refine kV C (ctX6_clayOf_i l hti0 htr0) gX6_copy_X6_clayOf rfl kdvX6_clayOf ⟨rfl, rfl⟩ ⟨by decide, by decide⟩ kW_blind (va_recv hK hP (ci := 3) (q0 := 0) rfl rfl) (kW_use hK (hP.sub (ws' := [(xo, .inr (3, [.ref wo, .ref x_tablets_a, .ref so, .ref x_steps_a, .int x_stepCount])), (x_tablets_a, .inl (cT, 4, .inr (.inr (.inr (.inr x_refs)))))]) [0, 1] rfl) kL_no) rfl hl [] rfl (Nat.le_of_ble_eq_true rfl) dX6_copy_2 ⟨by decide, by decide⟩ ?_
  refine lv_astore (lv' := [(6, .ref to), (0, .ref xo), (1, .int p1), (2, .int p2), (3, .int p3), (4, .int p4), (5, .int p5)]) hx hb dX6_copy_5 hl (by decide) rfl (fun ls hl => ?_)
  refine lv_aload hx hb dX6_copy_7 (lv_at hl 0 rfl) ?_
  refine lv_ifnonnull (tgt := 14) hx hb dX6_copy_9 (by decide) ?_
  refine lv_iload_n hx hb dX6_copy_14 rfl (lv_at hl 3 rfl) ?_
  refine lv_iload_n hx hb dX6_copy_15 rfl (lv_at hl 4 rfl) ?_
  obtain ⟨u1, hu1, h⟩ := md_b h
  refine kS C (ctX2_isTable l  hu1) gX6_copy_X2_isTable rfl kdX2_isTable ⟨rfl, rfl⟩ ⟨by decide, by decide⟩ kT_blind (fun _ _ _ => trivial) rfl hl [] rfl (Nat.le_of_ble_eq_true rfl) dX6_copy_16 ⟨by decide, by decide⟩ ?_
  refine lv_if_eq (tgt := 35) hx hb dX6_copy_19 (by decide) (fun c2 => ?_) (fun c2 => ?_)
  · replace h := md_t c2 h
    refine lv_bipush (v := -2) hx hb dX6_copy_35 (by decide) ?_
    exact hQ (-2 : Int32) t_cells t_sixties t_rows H locs 37 ls h hP hS dX6_copy_37
  replace h := md_f c2 h
  refine lv_iload hx hb dX6_copy_22 (lv_at hl 6 rfl) ?_
  refine lv_iconst (v := 1) hx hb dX6_copy_24 (by decide) ?_
  refine lv_icmp_lt (tgt := 35) hx hb dX6_copy_25 (by decide) (fun c3 => ?_) (fun c3 => ?_)
  · replace h := md_t c3 h
    refine lv_bipush (v := -2) hx hb dX6_copy_35 (by decide) ?_
    exact hQ (-2 : Int32) t_cells t_sixties t_rows H locs 37 ls h hP hS dX6_copy_37
  replace h := md_f c3 h
  refine lv_iload hx hb dX6_copy_28 (lv_at hl 6 rfl) ?_
  refine lv_bipush (v := 8) hx hb dX6_copy_30 (by decide) ?_
  refine lv_icmp_le (tgt := 38) hx hb dX6_copy_32 (by decide) (fun c4 => ?_) (fun c4 => ?_)
  · replace h := md_t c4 h
    refine lv_iload hx hb dX6_copy_38 (lv_at hl 5 rfl) ?_
    refine lv_if_lt (tgt := 55) hx hb dX6_copy_40 (by decide) (fun c5 => ?_) (fun c5 => ?_)
    · replace h := md_t c5 h
      refine lv_bipush (v := -5) hx hb dX6_copy_55 (by decide) ?_
      exact hQ (-5 : Int32) t_cells t_sixties t_rows H locs 57 ls h hP hS dX6_copy_57
    replace h := md_f c5 h
    refine lv_iload hx hb dX6_copy_43 (lv_at hl 5 rfl) ?_
    refine lv_iload_n hx hb dX6_copy_45 rfl (lv_at hl 3 rfl) ?_
    obtain ⟨u6, hu6, h⟩ := md_b h
    refine kS C (ctX2_rowsOf l  hu6) gX6_copy_X2_rowsOf rfl kdX2_rowsOf ⟨rfl, rfl⟩ ⟨by decide, by decide⟩ kW_blind (kW_use hK va_P0 (kL_at hLz hS (fun _ q => q.elim))) rfl hl [.int p4] rfl (Nat.le_of_ble_eq_true rfl) dX6_copy_46 ⟨by decide, by decide⟩ ?_
    refine lv_iload hx hb dX6_copy_49 (lv_at hl 6 rfl) ?_
    refine lv_isub hx hb dX6_copy_51 ?_
    refine lv_icmp_le (tgt := 58) hx hb dX6_copy_52 (by decide) (fun c7 => ?_) (fun c7 => ?_)
    · replace h := md_t c7 h
      refine lv_aload hx hb dX6_copy_58 (lv_at hl 0 rfl) ?_
      refine lv_iload hx hb dX6_copy_60 (lv_at hl 6 rfl) ?_
      obtain ⟨u8, hu8, h⟩ := md_b h
      refine kVx C (ctX3_smooth l (nd_sub hnd [2, 3, 4] (by decide) rfl) hu8) gX6_copy_X3_smooth rfl kdvX3_smooth ⟨rfl, rfl⟩ ⟨by decide, by decide⟩ kW_blind (va_recv hK hP (ci := 1) (q0 := 2) rfl rfl) (kW_use hK (hP.sub (ws' := [(to, .inr (1, [.ref t_cells_a, .ref t_sixties_a, .int t_rows])), (t_cells_a, .inl (cI, 24, .inl t_cells)), (t_sixties_a, .inl (cI, 24, .inl t_sixties))]) [2, 3, 4] rfl) kL_no) rfl hl [] rfl (Nat.le_of_ble_eq_true rfl) dX6_copy_62 ⟨by decide, by decide⟩ hS (mem_sub [2, 3, 4] rfl) (fun H1 locs hP1 hk1 hS => ?_)
      replace hP : va_P D vwCl [(xo, .inr (3, [.ref wo, .ref x_tablets_a, .ref so, .ref x_steps_a, .int x_stepCount])), (x_tablets_a, .inl (cT, 4, .inr (.inr (.inr (.inr x_refs))))), (to, .inr (1, [.ref t_cells_a, .ref t_sixties_a, .int u8.2.2])), (t_cells_a, .inl (cI, 24, .inl u8.1)), (t_sixties_a, .inl (cI, 24, .inl u8.2.1))] H1 := kjoin hnd rfl hP hP1 hk1 [2, 3, 4] rfl [(false, 0), (false, 1), (true, 0), (true, 1), (true, 2)] rfl rfl
      clear hP1 hk1
      generalize H1 = H at hP hS ⊢
      refine lv_iconst (v := 0) hx hb dX6_copy_65 (by decide) ?_
      refine lv_istore (lv' := [(7, .int (0 : Int32)), (6, .ref to), (0, .ref xo), (1, .int p1), (2, .int p2), (3, .int p3), (4, .int p4), (5, .int p5)]) hx hb dX6_copy_66 hl (by decide) rfl (fun ls hl => ?_)
      refine lX6_copy_i_68 (xo := xo) (wo := wo) (x_tablets_a := x_tablets_a) (so := so) (x_steps_a := x_steps_a) (to := to) (t_cells_a := t_cells_a) (t_sixties_a := t_sixties_a) C hK hLz hnd p2 p3 p4 p5 x_stepCount u8.2.2 res hQ _ (fun t_cells_117 t_sixties_117 h H locs hP hS ls hl => ?_) kN (0 : Int32) u8.1 u8.2.1 h _ _ hP hS ls (lv_sub hl [4, 5, 6, 7, 1, 0] rfl)
      refine lv_iload hx hb dX6_copy_117 (lv_at hl 0 rfl) ?_
      exact hQ p5 t_cells_117 t_sixties_117 u8.2.2 H locs 119 ls h hP hS dX6_copy_119
    replace h := md_f c7 h
    refine lv_bipush (v := -5) hx hb dX6_copy_55 (by decide) ?_
    exact hQ (-5 : Int32) t_cells t_sixties t_rows H locs 57 ls h hP hS dX6_copy_57
  replace h := md_f c4 h
  refine lv_bipush (v := -2) hx hb dX6_copy_35 (by decide) ?_
  exact hQ (-2 : Int32) t_cells t_sixties t_rows H locs 37 ls h hP hS dX6_copy_37
set_option maxHeartbeats 4000000 in
theorem ctX6_copy_i (l : Launch) {D : va_G} {cI cT : ClassId} {xo wo x_tablets_a so x_steps_a to t_cells_a t_sixties_a : Nat} {x_refs : Nat → Option Nat} {aL : Nat × Nat} {x_stepCount : Int32} {t_cells : Nat → Int32} {t_sixties : Nat → Int32} {t_rows : Int32} {p1 : Int32} {p2 : Int32} {p3 : Int32} {p4 : Int32} {p5 : Int32} {res : (Int32 × (Nat → Int32) × (Nat → Int32) × Int32)} (hnd : ([xo, x_tablets_a, to, t_cells_a, t_sixties_a] : List Nat).Nodup) (hti0 : vp_in p1 4) (htr0 : x_refs (Int32.toNatClampNeg p1) = some to) (hm : mX6_copy_i t_cells t_sixties t_rows p1 p2 p3 p4 p5 = some res) : Met l yX6_copy wsX6_copy rmX6_copy_i (va_Pc [.ref xo, .int p1, .int p2, .int p3, .int p4, .int p5] (kW D cI cT [(xo, .inr (3, [.ref wo, .ref x_tablets_a, .ref so, .ref x_steps_a, .int x_stepCount])), (x_tablets_a, .inl (cT, 4, .inr (.inr (.inr (.inr x_refs))))), (to, .inr (1, [.ref t_cells_a, .ref t_sixties_a, .int t_rows])), (t_cells_a, .inl (cI, 24, .inl t_cells)), (t_sixties_a, .inl (cI, 24, .inl t_sixties))] (some aL) (fun q => q ∈ ([xo, x_tablets_a, to, t_cells_a, t_sixties_a] : List Nat)))) (kX (some (.int res.1)) D [(xo, .inr (3, [.ref wo, .ref x_tablets_a, .ref so, .ref x_steps_a, .int x_stepCount])), (x_tablets_a, .inl (cT, 4, .inr (.inr (.inr (.inr x_refs))))), (to, .inr (1, [.ref t_cells_a, .ref t_sixties_a, .int res.2.2.2])), (t_cells_a, .inl (cI, 24, .inl res.2.1)), (t_sixties_a, .inl (cI, 24, .inl res.2.2.1))] (fun q => q ∈ ([xo, x_tablets_a, to, t_cells_a, t_sixties_a] : List Nat))) 0 0 (fun q => q ∈ ([xo, x_tablets_a, to, t_cells_a, t_sixties_a] : List Nat)) :=
  km (by decide) rfl (Nat.le_of_ble_eq_true rfl) (fun p e s m below meth c ls C hB hl => bX6_copy_i C p1 p2 p3 p4 p5 hB.1 (hB.2.2 aL rfl) hnd hti0 htr0 x_stepCount t_cells t_sixties t_rows res (fun v t_cells1 t_sixties1 t_rows1 H locs pc ls h hP hS hd => by obtain rfl := Option.some.inj h; exact kx_i C hP hS hd) hm s.heap [] hB.2.1 va_S.rf ls hl)
abbrev rmX6_copy_o : Room := { frames := 1, cells := 0, slots := 0, locals := 21 }
def mX6_copy_o (p1 : Int32) (p2 : Int32) (p3 : Int32) (p4 : Int32) (p5 : Int32) : Option Int32 := (some (-1 : Int32))
set_option maxHeartbeats 4000000 in
set_option maxRecDepth 100000 in
theorem bX6_copy_o {p : Program} {l : Launch} {e : Env} {s : State} {m : MethodId} {args : Array Value} {below : List Frame} {meth : Method} {c : Code} {Q : State → Prop} (C : kc p s m args meth c cX6_copy 9 RX6 yX6_copy.name wsX6_copy (some .int)) {D : va_G} {cI cT : ClassId} {xo wo x_tablets_a so x_steps_a : Nat} {x_refs : Nat → Option Nat} (p1 : Int32) (p2 : Int32) (p3 : Int32) (p4 : Int32) (p5 : Int32) (hK : va_K D vwCl (kTy cI cT) s) (hto0 : ¬ vp_in p1 4) (x_stepCount : Int32) (hP : va_P D vwCl [(xo, .inr (3, [.ref wo, .ref x_tablets_a, .ref so, .ref x_steps_a, .int x_stepCount])), (x_tablets_a, .inl (cT, 4, .inr (.inr (.inr (.inr x_refs)))))] s.heap) (res : Int32) (hQ : ∀ (v : Int32) (pc : Nat) (ls : Array Slot), some v = some res → decode cX6_copy pc = .ok (.ireturn, 1) → W p l e rmX6_copy_o s m args below meth c s.heap [] 0 0 Q (F0 m pc ls [.int v])) : mX6_copy_o p1 p2 p3 p4 p5 = some res → ∀ (ls : Array Slot), lv_has ls 9 [(0, .ref xo), (1, .int p1), (2, .int p2), (3, .int p3), (4, .int p4), (5, .int p5)] → W p l e rmX6_copy_o s m args below meth c s.heap [] 0 0 Q (F0 m 0 ls []) := by
  intro h ls hl
  have C0 := C
  obtain ⟨hx, hb, hml, hown, hts, hr, hlk, hnm⟩ := C0
  rw [mX6_copy_o] at h
  refine lv_aload_n hx hb dX6_copy_0 rfl (lv_at hl 0 rfl) ?_
  refine lv_iload_n hx hb dX6_copy_1 rfl (lv_at hl 1 rfl) ?_
  refine kV C (ctX6_clayOf_o l hto0) gX6_copy_X6_clayOf rfl kdvX6_clayOf ⟨rfl, rfl⟩ ⟨by decide, by decide⟩ kW_blind (va_recv hK hP (ci := 3) (q0 := 0) rfl rfl) (kW_use hK (hP.sub (ws' := [(xo, .inr (3, [.ref wo, .ref x_tablets_a, .ref so, .ref x_steps_a, .int x_stepCount])), (x_tablets_a, .inl (cT, 4, .inr (.inr (.inr (.inr x_refs)))))]) [0, 1] rfl) kL_no) rfl hl [] rfl (Nat.le_of_ble_eq_true rfl) dX6_copy_2 ⟨by decide, by decide⟩ ?_
  refine lv_astoreN (lv' := [(6, .null), (0, .ref xo), (1, .int p1), (2, .int p2), (3, .int p3), (4, .int p4), (5, .int p5)]) hx hb dX6_copy_5 hl (by decide) rfl (fun ls hl => ?_)
  refine lv_aloadN hx hb dX6_copy_7 (lv_at hl 0 rfl) ?_
  refine lv_ifnonnullN hx hb dX6_copy_9 ?_
  refine lv_iconst (v := -1) hx hb dX6_copy_12 (by decide) ?_
  exact hQ (-1 : Int32) 13 ls h dX6_copy_13
set_option maxHeartbeats 4000000 in
theorem ctX6_copy_o (l : Launch) {D : va_G} {cI cT : ClassId} {xo wo x_tablets_a so x_steps_a : Nat} {x_refs : Nat → Option Nat} {x_stepCount : Int32} {p1 : Int32} {p2 : Int32} {p3 : Int32} {p4 : Int32} {p5 : Int32} {res : Int32} (hto0 : ¬ vp_in p1 4) (hm : mX6_copy_o p1 p2 p3 p4 p5 = some res) : Met l yX6_copy wsX6_copy rmX6_copy_o (va_Pc [.ref xo, .int p1, .int p2, .int p3, .int p4, .int p5] (kW D cI cT [(xo, .inr (3, [.ref wo, .ref x_tablets_a, .ref so, .ref x_steps_a, .int x_stepCount])), (x_tablets_a, .inl (cT, 4, .inr (.inr (.inr (.inr x_refs)))))] none (fun _ => False))) (kR (.int res)) 0 0 (fun _ => False) :=
  km (by decide) rfl (Nat.le_of_ble_eq_true rfl) (fun p e s m below meth c ls C hB hl => bX6_copy_o C p1 p2 p3 p4 p5 hB.1 hto0 x_stepCount hB.2.1 res (fun v pc ls h hd => kr_i C h hd) hm ls hl)
theorem wm_X6_reading_i_0 : Cond.fieldLink RX6 19 "SixtyTablet" "search" "LSixtyTablet$Search;" ∈ wsX6_reading := by decide +kernel
theorem wi_X6_reading_i_X6 : ∀ w ∈ wsX60, w ∈ wsX6_reading := by decide +kernel
theorem kdvX6_reading : yX6_reading.cls = RX6 ∧ yX6_reading.cls ≠ "java/lang/invoke/MethodHandle" ∧ yX6_reading.cls ≠ "java/lang/invoke/VarHandle" ∧ (parseMethodDescriptor yX6_reading.desc).map (fun d => d.parameters.length) = some 2 := by decide +kernel
abbrev rmX6_reading_i : Room := { frames := 5, cells := 0, slots := 0, locals := 110 }
def mlX6_reading_i_26 (x2 : Int32) (s_heldRows : Nat → Int32) (s_heldColumns : Nat → Int32) (s_heldSixties : Nat → Int32) (s_heldCount : Int32) (s_rows : Int32) (kE : Int32 → Int32 → Int32 → Int32 → Option (Int32 × (Nat → Int32) × (Nat → Int32) × (Nat → Int32) × Int32 × Int32 × Int32 × Int32 × Int32)) : Nat → Int32 → Int32 → Int32 → Int32 → Int32 → Option (Int32 × (Nat → Int32) × (Nat → Int32) × (Nat → Int32) × Int32 × Int32 × Int32 × Int32 × Int32)
  | 0, _, _, _, _, _ => none
  | n + 1, x4, x5, s_kind, s_n, s_first => (if (4000 : Int32) ≤ x5 then (kE x4 s_kind s_n s_first) else (Option.bind (mX0_nextReading s_heldRows s_heldColumns s_heldSixties s_heldCount s_rows s_kind s_n s_first) (fun u3 => (if u3.1 = 0 then (kE x4 u3.2.1 u3.2.2.1 u3.2.2.2) else (if x4 = x2 then (Option.bind (mX0_code u3.2.1 u3.2.2.1 u3.2.2.2) (fun u8 => (some (u8, s_heldRows, s_heldColumns, s_heldSixties, s_heldCount, s_rows, u3.2.1, u3.2.2.1, u3.2.2.2)))) else (md_let (x4 + (1 : Int32)) (fun (x4_6 : Int32) => (md_let (x5 + (1 : Int32)) (fun (x5_7 : Int32) => (mlX6_reading_i_26 x2 s_heldRows s_heldColumns s_heldSixties s_heldCount s_rows kE n x4_6 x5_7 u3.2.1 u3.2.2.1 u3.2.2.2))))))))))
set_option maxHeartbeats 4000000 in
set_option maxRecDepth 100000 in
theorem lX6_reading_i_26 {p : Program} {l : Launch} {e : Env} {s : State} {m : MethodId} {args : Array Value} {below : List Frame} {meth : Method} {c : Code} {Q : State → Prop} (C : kc p s m args meth c cX6_reading 6 RX6 yX6_reading.name wsX6_reading (some .int)) {D : va_G} {cI cT : ClassId} {xo wo x_tablets_a so x_steps_a s_heldRows_a s_heldColumns_a s_heldSixties_a s_certain_a to t_cells_a t_sixties_a : Nat} {x_refs : Nat → Option Nat} {aL : Nat × Nat} (hK : va_K D vwCl (kTy cI cT) s) (hLz : kLz aL (fun q => q ∈ ([xo, x_tablets_a, so, s_heldRows_a, s_heldColumns_a, s_heldSixties_a, s_certain_a, to, t_cells_a, t_sixties_a] : List Nat)) s s.heap) (hnd : ([xo, x_tablets_a, so, s_heldRows_a, s_heldColumns_a, s_heldSixties_a, s_certain_a, to, t_cells_a, t_sixties_a] : List Nat).Nodup) (x2 : Int32) (x_stepCount : Int32) (s_heldRows : Nat → Int32) (s_heldColumns : Nat → Int32) (s_heldSixties : Nat → Int32) (s_certain : Nat → Int32) (s_heldCount : Int32) (s_rows : Int32) (t_cells : Nat → Int32) (t_sixties : Nat → Int32) (t_rows : Int32) (res : (Int32 × (Nat → Int32) × (Nat → Int32) × (Nat → Int32) × Int32 × Int32 × Int32 × Int32 × Int32)) (hQ : ∀ (v : Int32) (s_heldRows : Nat → Int32) (s_heldColumns : Nat → Int32) (s_heldSixties : Nat → Int32) (s_heldCount : Int32) (s_rows : Int32) (s_kind : Int32) (s_n : Int32) (s_first : Int32) (H : Heap) (locs : List Loc) (pc : Nat) (ls : Array Slot), some (v, s_heldRows, s_heldColumns, s_heldSixties, s_heldCount, s_rows, s_kind, s_n, s_first) = some res → va_P D vwCl [(xo, .inr (3, [.ref wo, .ref x_tablets_a, .ref so, .ref x_steps_a, .int x_stepCount])), (x_tablets_a, .inl (cT, 4, .inr (.inr (.inr (.inr x_refs))))), (so, .inr (0, [.ref s_heldRows_a, .ref s_heldColumns_a, .ref s_heldSixties_a, .ref s_certain_a, .int s_heldCount, .int s_rows, .int s_kind, .int s_n, .int s_first])), (s_heldRows_a, .inl (cI, 24, .inl s_heldRows)), (s_heldColumns_a, .inl (cI, 24, .inl s_heldColumns)), (s_heldSixties_a, .inl (cI, 24, .inl s_heldSixties)), (s_certain_a, .inl (cI, 24, .inl s_certain)), (to, .inr (1, [.ref t_cells_a, .ref t_sixties_a, .int t_rows])), (t_cells_a, .inl (cI, 24, .inl t_cells)), (t_sixties_a, .inl (cI, 24, .inl t_sixties))] H → va_S (fun q => q ∈ ([xo, x_tablets_a, so, s_heldRows_a, s_heldColumns_a, s_heldSixties_a, s_certain_a, to, t_cells_a, t_sixties_a] : List Nat)) s.heap H locs → decode cX6_reading pc = .ok (.ireturn, 1) → W p l e rmX6_reading_i s m args below meth c H locs 0 0 Q (F0 m pc ls [.int v])) (kE : Int32 → Int32 → Int32 → Int32 → Option (Int32 × (Nat → Int32) × (Nat → Int32) × (Nat → Int32) × Int32 × Int32 × Int32 × Int32 × Int32)) (hE : ∀ (y4 : Int32) (s_kind : Int32) (s_n : Int32) (s_first : Int32), kE y4 s_kind s_n s_first = some res → ∀ (H : Heap) (locs : List Loc), va_P D vwCl [(xo, .inr (3, [.ref wo, .ref x_tablets_a, .ref so, .ref x_steps_a, .int x_stepCount])), (x_tablets_a, .inl (cT, 4, .inr (.inr (.inr (.inr x_refs))))), (so, .inr (0, [.ref s_heldRows_a, .ref s_heldColumns_a, .ref s_heldSixties_a, .ref s_certain_a, .int s_heldCount, .int s_rows, .int s_kind, .int s_n, .int s_first])), (s_heldRows_a, .inl (cI, 24, .inl s_heldRows)), (s_heldColumns_a, .inl (cI, 24, .inl s_heldColumns)), (s_heldSixties_a, .inl (cI, 24, .inl s_heldSixties)), (s_certain_a, .inl (cI, 24, .inl s_certain)), (to, .inr (1, [.ref t_cells_a, .ref t_sixties_a, .int t_rows])), (t_cells_a, .inl (cI, 24, .inl t_cells)), (t_sixties_a, .inl (cI, 24, .inl t_sixties))] H → va_S (fun q => q ∈ ([xo, x_tablets_a, so, s_heldRows_a, s_heldColumns_a, s_heldSixties_a, s_certain_a, to, t_cells_a, t_sixties_a] : List Nat)) s.heap H locs → ∀ (ls : Array Slot), lv_has ls 6 [(2, .int x2), (4, .int y4)] → W p l e rmX6_reading_i s m args below meth c H locs 0 0 Q (F0 m 67 ls [])) : ∀ (n : Nat), ∀ (x4 : Int32) (x5 : Int32) (s_kind : Int32) (s_n : Int32) (s_first : Int32), mlX6_reading_i_26 x2 s_heldRows s_heldColumns s_heldSixties s_heldCount s_rows kE n x4 x5 s_kind s_n s_first = some res → ∀ (H : Heap) (locs : List Loc), va_P D vwCl [(xo, .inr (3, [.ref wo, .ref x_tablets_a, .ref so, .ref x_steps_a, .int x_stepCount])), (x_tablets_a, .inl (cT, 4, .inr (.inr (.inr (.inr x_refs))))), (so, .inr (0, [.ref s_heldRows_a, .ref s_heldColumns_a, .ref s_heldSixties_a, .ref s_certain_a, .int s_heldCount, .int s_rows, .int s_kind, .int s_n, .int s_first])), (s_heldRows_a, .inl (cI, 24, .inl s_heldRows)), (s_heldColumns_a, .inl (cI, 24, .inl s_heldColumns)), (s_heldSixties_a, .inl (cI, 24, .inl s_heldSixties)), (s_certain_a, .inl (cI, 24, .inl s_certain)), (to, .inr (1, [.ref t_cells_a, .ref t_sixties_a, .int t_rows])), (t_cells_a, .inl (cI, 24, .inl t_cells)), (t_sixties_a, .inl (cI, 24, .inl t_sixties))] H → va_S (fun q => q ∈ ([xo, x_tablets_a, so, s_heldRows_a, s_heldColumns_a, s_heldSixties_a, s_certain_a, to, t_cells_a, t_sixties_a] : List Nat)) s.heap H locs → ∀ (ls : Array Slot), lv_has ls 6 [(0, .ref xo), (2, .int x2), (4, .int x4), (5, .int x5)] → W p l e rmX6_reading_i s m args below meth c H locs 0 0 Q (F0 m 26 ls []) := by
  have C0 := C
  obtain ⟨hx, hb, hml, hown, hts, hr, hlk, hnm⟩ := C0
  intro n
  induction n with
  | zero => intro _ _ _ _ _ h; exact md_x h
  | succ n ih =>
    intro x4 x5 s_kind s_n s_first h H locs hP hS ls hl
    rw [mlX6_reading_i_26] at h
    refine lv_iload hx hb dX6_reading_26 (lv_at hl 3 rfl) ?_
    refine lv_sipush (v := 4000) hx hb dX6_reading_28 (by decide) ?_
    refine lv_icmp_ge (tgt := 67) hx hb dX6_reading_31 (by decide) (fun c2 => ?_) (fun c2 => ?_)
    · replace h := md_t c2 h
      exact hE x4 s_kind s_n s_first h _ _ hP hS ls (lv_sub hl [1, 2] rfl)
    replace h := md_f c2 h
    refine lv_aload_n hx hb dX6_reading_34 rfl (lv_at hl 0 rfl) ?_
    refine va_get (D := D) (ci := 3) (v := .ref so) (C := RX6) (T := TX6) (N := 5) hx hb hts wi_X6_reading_i_X6 hown hK hP 0 rfl rfl 2 (by decide) (hts _ wm_X6_reading_i_0) (fun _ h9 => h9) rfl dX6_reading_35 ?_
    obtain ⟨u3, hu3, h⟩ := md_b h
    refine kVx C (ctX0_nextReading l (nd_sub hnd [2, 3, 4, 5, 6] (by decide) rfl) hu3) gX6_reading_X0_nextReading rfl kdvX0_nextReading ⟨rfl, rfl⟩ ⟨by decide, by decide⟩ kW_blind (va_recv hK hP (ci := 0) (q0 := 2) rfl rfl) (kW_use hK (hP.sub (ws' := [(so, .inr (0, [.ref s_heldRows_a, .ref s_heldColumns_a, .ref s_heldSixties_a, .ref s_certain_a, .int s_heldCount, .int s_rows, .int s_kind, .int s_n, .int s_first])), (s_heldRows_a, .inl (cI, 24, .inl s_heldRows)), (s_heldColumns_a, .inl (cI, 24, .inl s_heldColumns)), (s_heldSixties_a, .inl (cI, 24, .inl s_heldSixties)), (s_certain_a, .inl (cI, 24, .inl s_certain))]) [2, 3, 4, 5, 6] rfl) (kL_at hLz hS (mem_sub [2, 3, 4, 5, 6] rfl))) rfl hl [] rfl (Nat.le_of_ble_eq_true rfl) dX6_reading_38 ⟨by decide, by decide⟩ hS (mem_sub [2, 3, 4, 5, 6] rfl) (fun H1 locs hP1 hk1 hS => ?_)
    replace hP : va_P D vwCl [(xo, .inr (3, [.ref wo, .ref x_tablets_a, .ref so, .ref x_steps_a, .int x_stepCount])), (x_tablets_a, .inl (cT, 4, .inr (.inr (.inr (.inr x_refs))))), (so, .inr (0, [.ref s_heldRows_a, .ref s_heldColumns_a, .ref s_heldSixties_a, .ref s_certain_a, .int s_heldCount, .int s_rows, .int u3.2.1, .int u3.2.2.1, .int u3.2.2.2])), (s_heldRows_a, .inl (cI, 24, .inl s_heldRows)), (s_heldColumns_a, .inl (cI, 24, .inl s_heldColumns)), (s_heldSixties_a, .inl (cI, 24, .inl s_heldSixties)), (s_certain_a, .inl (cI, 24, .inl s_certain)), (to, .inr (1, [.ref t_cells_a, .ref t_sixties_a, .int t_rows])), (t_cells_a, .inl (cI, 24, .inl t_cells)), (t_sixties_a, .inl (cI, 24, .inl t_sixties))] H1 := kjoin hnd rfl hP hP1 hk1 [2, 3, 4, 5, 6] rfl [(false, 0), (false, 1), (true, 0), (true, 1), (true, 2), (true, 3), (true, 4), (false, 7), (false, 8), (false, 9)] rfl rfl
    clear hP1 hk1
    generalize H1 = H at hP hS ⊢
    refine lv_if_eq (tgt := 67) hx hb dX6_reading_41 (by decide) (fun c4 => ?_) (fun c4 => ?_)
    · replace h := md_t c4 h
      exact hE x4 u3.2.1 u3.2.2.1 u3.2.2.2 h _ _ hP hS ls (lv_sub hl [1, 2] rfl)
    replace h := md_f c4 h
    refine lv_iload hx hb dX6_reading_44 (lv_at hl 2 rfl) ?_
    refine lv_iload_n hx hb dX6_reading_46 rfl (lv_at hl 1 rfl) ?_
    refine lv_icmp_ne (tgt := 58) hx hb dX6_reading_47 (by decide) (fun c5 => ?_) (fun c5 => ?_)
    · replace h := md_f c5 h
      obtain ⟨x4_6, ex4_6⟩ : ∃ y : Int32, y = (x4 + (1 : Int32)) := ⟨_, rfl⟩
      replace h := md_le ex4_6 h
      refine lv_iinc (v := x4_6) (lv' := [(4, .int x4_6), (0, .ref xo), (2, .int x2), (5, .int x5)]) hx hb dX6_reading_58 hl (k := 2) rfl (by rw [ex4_6]; rfl) (by decide) rfl (fun ls hl => ?_)
      obtain ⟨x5_7, ex5_7⟩ : ∃ y : Int32, y = (x5 + (1 : Int32)) := ⟨_, rfl⟩
      replace h := md_le ex5_7 h
      refine lv_iinc (v := x5_7) (lv' := [(5, .int x5_7), (4, .int x4_6), (0, .ref xo), (2, .int x2)]) hx hb dX6_reading_61 hl (k := 3) rfl (by rw [ex5_7]; rfl) (by decide) rfl (fun ls hl => ?_)
      refine lv_goto (tgt := 26) hx hb dX6_reading_64 (by decide) ?_
      exact ih x4_6 x5_7 u3.2.1 u3.2.2.1 u3.2.2.2 h _ _ hP hS ls (lv_sub hl [2, 3, 1, 0] rfl)
    replace h := md_t c5 h
    refine lv_aload_n hx hb dX6_reading_50 rfl (lv_at hl 0 rfl) ?_
    refine va_get (D := D) (ci := 3) (v := .ref so) (C := RX6) (T := TX6) (N := 5) hx hb hts wi_X6_reading_i_X6 hown hK hP 0 rfl rfl 2 (by decide) (hts _ wm_X6_reading_i_0) (fun _ h9 => h9) rfl dX6_reading_51 ?_
    obtain ⟨u8, hu8, h⟩ := md_b h
    refine kV C (ctX0_code l  hu8) gX6_reading_X0_code rfl kdvX0_code ⟨rfl, rfl⟩ ⟨by decide, by decide⟩ kW_blind (va_recv hK hP (ci := 0) (q0 := 2) rfl rfl) (kW_use hK (hP.sub (ws' := [(so, .inr (0, [.ref s_heldRows_a, .ref s_heldColumns_a, .ref s_heldSixties_a, .ref s_certain_a, .int s_heldCount, .int s_rows, .int u3.2.1, .int u3.2.2.1, .int u3.2.2.2])), (s_heldRows_a, .inl (cI, 24, .inl s_heldRows)), (s_heldColumns_a, .inl (cI, 24, .inl s_heldColumns)), (s_heldSixties_a, .inl (cI, 24, .inl s_heldSixties)), (s_certain_a, .inl (cI, 24, .inl s_certain))]) [2, 3, 4, 5, 6] rfl) kL_no) rfl hl [] rfl (Nat.le_of_ble_eq_true rfl) dX6_reading_54 ⟨by decide, by decide⟩ ?_
    exact hQ u8 s_heldRows s_heldColumns s_heldSixties s_heldCount s_rows u3.2.1 u3.2.2.1 u3.2.2.2 H locs 57 ls h hP hS dX6_reading_57
def mX6_reading_i (s_heldRows : Nat → Int32) (s_heldColumns : Nat → Int32) (s_heldSixties : Nat → Int32) (t_cells : Nat → Int32) (t_sixties : Nat → Int32) (t_rows : Int32) (p1 : Int32) (p2 : Int32) : Option (Int32 × (Nat → Int32) × (Nat → Int32) × (Nat → Int32) × Int32 × Int32 × Int32 × Int32 × Int32) := (Option.bind (mX0_begin s_heldRows s_heldColumns s_heldSixties t_cells t_sixties t_rows) (fun u1 => (mlX6_reading_i_26 p2 u1.1 u1.2.1 u1.2.2.1 u1.2.2.2.1 u1.2.2.2.2.1 (fun (y4_67 : Int32) (s_kind_67 : Int32) (s_n_67 : Int32) (s_first_67 : Int32) => (if p2 = (-1 : Int32) then (some (y4_67, u1.1, u1.2.1, u1.2.2.1, u1.2.2.2.1, u1.2.2.2.2.1, s_kind_67, s_n_67, s_first_67)) else (some ((-6 : Int32), u1.1, u1.2.1, u1.2.2.1, u1.2.2.2.1, u1.2.2.2.2.1, s_kind_67, s_n_67, s_first_67)))) kN (0 : Int32) (0 : Int32) u1.2.2.2.2.2.1 u1.2.2.2.2.2.2.1 u1.2.2.2.2.2.2.2)))
set_option maxHeartbeats 4000000 in
set_option maxRecDepth 100000 in
theorem bX6_reading_i {p : Program} {l : Launch} {e : Env} {s : State} {m : MethodId} {args : Array Value} {below : List Frame} {meth : Method} {c : Code} {Q : State → Prop} (C : kc p s m args meth c cX6_reading 6 RX6 yX6_reading.name wsX6_reading (some .int)) {D : va_G} {cI cT : ClassId} {xo wo x_tablets_a so x_steps_a s_heldRows_a s_heldColumns_a s_heldSixties_a s_certain_a to t_cells_a t_sixties_a : Nat} {x_refs : Nat → Option Nat} {aL : Nat × Nat} (p1 : Int32) (p2 : Int32) (hK : va_K D vwCl (kTy cI cT) s) (hLz : kLz aL (fun q => q ∈ ([xo, x_tablets_a, so, s_heldRows_a, s_heldColumns_a, s_heldSixties_a, s_certain_a, to, t_cells_a, t_sixties_a] : List Nat)) s s.heap) (hnd : ([xo, x_tablets_a, so, s_heldRows_a, s_heldColumns_a, s_heldSixties_a, s_certain_a, to, t_cells_a, t_sixties_a] : List Nat).Nodup) (hti0 : vp_in p1 4) (htr0 : x_refs (Int32.toNatClampNeg p1) = some to) (x_stepCount : Int32) (s_heldRows : Nat → Int32) (s_heldColumns : Nat → Int32) (s_heldSixties : Nat → Int32) (s_certain : Nat → Int32) (s_heldCount : Int32) (s_rows : Int32) (s_kind : Int32) (s_n : Int32) (s_first : Int32) (t_cells : Nat → Int32) (t_sixties : Nat → Int32) (t_rows : Int32) (res : (Int32 × (Nat → Int32) × (Nat → Int32) × (Nat → Int32) × Int32 × Int32 × Int32 × Int32 × Int32)) (hQ : ∀ (v : Int32) (s_heldRows : Nat → Int32) (s_heldColumns : Nat → Int32) (s_heldSixties : Nat → Int32) (s_heldCount : Int32) (s_rows : Int32) (s_kind : Int32) (s_n : Int32) (s_first : Int32) (H : Heap) (locs : List Loc) (pc : Nat) (ls : Array Slot), some (v, s_heldRows, s_heldColumns, s_heldSixties, s_heldCount, s_rows, s_kind, s_n, s_first) = some res → va_P D vwCl [(xo, .inr (3, [.ref wo, .ref x_tablets_a, .ref so, .ref x_steps_a, .int x_stepCount])), (x_tablets_a, .inl (cT, 4, .inr (.inr (.inr (.inr x_refs))))), (so, .inr (0, [.ref s_heldRows_a, .ref s_heldColumns_a, .ref s_heldSixties_a, .ref s_certain_a, .int s_heldCount, .int s_rows, .int s_kind, .int s_n, .int s_first])), (s_heldRows_a, .inl (cI, 24, .inl s_heldRows)), (s_heldColumns_a, .inl (cI, 24, .inl s_heldColumns)), (s_heldSixties_a, .inl (cI, 24, .inl s_heldSixties)), (s_certain_a, .inl (cI, 24, .inl s_certain)), (to, .inr (1, [.ref t_cells_a, .ref t_sixties_a, .int t_rows])), (t_cells_a, .inl (cI, 24, .inl t_cells)), (t_sixties_a, .inl (cI, 24, .inl t_sixties))] H → va_S (fun q => q ∈ ([xo, x_tablets_a, so, s_heldRows_a, s_heldColumns_a, s_heldSixties_a, s_certain_a, to, t_cells_a, t_sixties_a] : List Nat)) s.heap H locs → decode cX6_reading pc = .ok (.ireturn, 1) → W p l e rmX6_reading_i s m args below meth c H locs 0 0 Q (F0 m pc ls [.int v])) : mX6_reading_i s_heldRows s_heldColumns s_heldSixties t_cells t_sixties t_rows p1 p2 = some res → ∀ (H : Heap) (locs : List Loc), va_P D vwCl [(xo, .inr (3, [.ref wo, .ref x_tablets_a, .ref so, .ref x_steps_a, .int x_stepCount])), (x_tablets_a, .inl (cT, 4, .inr (.inr (.inr (.inr x_refs))))), (so, .inr (0, [.ref s_heldRows_a, .ref s_heldColumns_a, .ref s_heldSixties_a, .ref s_certain_a, .int s_heldCount, .int s_rows, .int s_kind, .int s_n, .int s_first])), (s_heldRows_a, .inl (cI, 24, .inl s_heldRows)), (s_heldColumns_a, .inl (cI, 24, .inl s_heldColumns)), (s_heldSixties_a, .inl (cI, 24, .inl s_heldSixties)), (s_certain_a, .inl (cI, 24, .inl s_certain)), (to, .inr (1, [.ref t_cells_a, .ref t_sixties_a, .int t_rows])), (t_cells_a, .inl (cI, 24, .inl t_cells)), (t_sixties_a, .inl (cI, 24, .inl t_sixties))] H → va_S (fun q => q ∈ ([xo, x_tablets_a, so, s_heldRows_a, s_heldColumns_a, s_heldSixties_a, s_certain_a, to, t_cells_a, t_sixties_a] : List Nat)) s.heap H locs → ∀ (ls : Array Slot), lv_has ls 6 [(0, .ref xo), (1, .int p1), (2, .int p2)] → W p l e rmX6_reading_i s m args below meth c H locs 0 0 Q (F0 m 0 ls []) := by
  intro h H locs hP hS ls hl
  have C0 := C
  obtain ⟨hx, hb, hml, hown, hts, hr, hlk, hnm⟩ := C0
  rw [mX6_reading_i] at h
  refine lv_aload_n hx hb dX6_reading_0 rfl (lv_at hl 0 rfl) ?_
  refine lv_iload_n hx hb dX6_reading_1 rfl (lv_at hl 1 rfl) ?_
  refine kV C (ctX6_clayOf_i l hti0 htr0) gX6_reading_X6_clayOf rfl kdvX6_clayOf ⟨rfl, rfl⟩ ⟨by decide, by decide⟩ kW_blind (va_recv hK hP (ci := 3) (q0 := 0) rfl rfl) (kW_use hK (hP.sub (ws' := [(xo, .inr (3, [.ref wo, .ref x_tablets_a, .ref so, .ref x_steps_a, .int x_stepCount])), (x_tablets_a, .inl (cT, 4, .inr (.inr (.inr (.inr x_refs)))))]) [0, 1] rfl) kL_no) rfl hl [] rfl (Nat.le_of_ble_eq_true rfl) dX6_reading_2 ⟨by decide, by decide⟩ ?_
  refine lv_astore_n (lv' := [(3, .ref to), (0, .ref xo), (1, .int p1), (2, .int p2)]) hx hb dX6_reading_5 rfl hl (by decide) rfl (fun ls hl => ?_)
  refine lv_aload_n hx hb dX6_reading_6 rfl (lv_at hl 0 rfl) ?_
  refine lv_ifnonnull (tgt := 12) hx hb dX6_reading_7 (by decide) ?_
  refine lv_iconst (v := 0) hx hb dX6_reading_12 (by decide) ?_
  refine lv_istore (lv' := [(4, .int (0 : Int32)), (3, .ref to), (0, .ref xo), (1, .int p1), (2, .int p2)]) hx hb dX6_reading_13 hl (by decide) rfl (fun ls hl => ?_)
  refine lv_aload_n hx hb dX6_reading_15 rfl (lv_at hl 2 rfl) ?_
  refine va_get (D := D) (ci := 3) (v := .ref so) (C := RX6) (T := TX6) (N := 5) hx hb hts wi_X6_reading_i_X6 hown hK hP 0 rfl rfl 2 (by decide) (hts _ wm_X6_reading_i_0) (fun _ h9 => h9) rfl dX6_reading_16 ?_
  refine lv_aload_n hx hb dX6_reading_19 rfl (lv_at hl 1 rfl) ?_
  obtain ⟨u1, hu1, h⟩ := md_b h
  refine kVx C (ctX0_begin l (nd_sub hnd [2, 3, 4, 5, 6, 7, 8, 9] (by decide) rfl) hu1) gX6_reading_X0_begin rfl kdvX0_begin ⟨rfl, rfl⟩ ⟨by decide, by decide⟩ kW_blind (va_recv hK hP (ci := 0) (q0 := 2) rfl rfl) (kW_use hK (hP.sub (ws' := [(so, .inr (0, [.ref s_heldRows_a, .ref s_heldColumns_a, .ref s_heldSixties_a, .ref s_certain_a, .int s_heldCount, .int s_rows, .int s_kind, .int s_n, .int s_first])), (s_heldRows_a, .inl (cI, 24, .inl s_heldRows)), (s_heldColumns_a, .inl (cI, 24, .inl s_heldColumns)), (s_heldSixties_a, .inl (cI, 24, .inl s_heldSixties)), (s_certain_a, .inl (cI, 24, .inl s_certain)), (to, .inr (1, [.ref t_cells_a, .ref t_sixties_a, .int t_rows])), (t_cells_a, .inl (cI, 24, .inl t_cells)), (t_sixties_a, .inl (cI, 24, .inl t_sixties))]) [2, 3, 4, 5, 6, 7, 8, 9] rfl) kL_no) rfl hl [] rfl (Nat.le_of_ble_eq_true rfl) dX6_reading_20 ⟨by decide, by decide⟩ hS (mem_sub [2, 3, 4, 5, 6, 7, 8, 9] rfl) (fun H1 locs hP1 hk1 hS => ?_)
  replace hP : va_P D vwCl [(xo, .inr (3, [.ref wo, .ref x_tablets_a, .ref so, .ref x_steps_a, .int x_stepCount])), (x_tablets_a, .inl (cT, 4, .inr (.inr (.inr (.inr x_refs))))), (so, .inr (0, [.ref s_heldRows_a, .ref s_heldColumns_a, .ref s_heldSixties_a, .ref s_certain_a, .int u1.2.2.2.1, .int u1.2.2.2.2.1, .int u1.2.2.2.2.2.1, .int u1.2.2.2.2.2.2.1, .int u1.2.2.2.2.2.2.2])), (s_heldRows_a, .inl (cI, 24, .inl u1.1)), (s_heldColumns_a, .inl (cI, 24, .inl u1.2.1)), (s_heldSixties_a, .inl (cI, 24, .inl u1.2.2.1)), (s_certain_a, .inl (cI, 24, .inl s_certain)), (to, .inr (1, [.ref t_cells_a, .ref t_sixties_a, .int t_rows])), (t_cells_a, .inl (cI, 24, .inl t_cells)), (t_sixties_a, .inl (cI, 24, .inl t_sixties))] H1 := kjoin hnd rfl hP hP1 hk1 [2, 3, 4, 5, 6, 7, 8, 9] rfl [(false, 0), (false, 1), (true, 0), (true, 1), (true, 2), (true, 3), (true, 4), (true, 5), (true, 6), (true, 7)] rfl rfl
  clear hP1 hk1
  generalize H1 = H at hP hS ⊢
  refine lv_iconst (v := 0) hx hb dX6_reading_23 (by decide) ?_
  refine lv_istore (lv' := [(5, .int (0 : Int32)), (4, .int (0 : Int32)), (3, .ref to), (0, .ref xo), (1, .int p1), (2, .int p2)]) hx hb dX6_reading_24 hl (by decide) rfl (fun ls hl => ?_)
  refine lX6_reading_i_26 (xo := xo) (wo := wo) (x_tablets_a := x_tablets_a) (so := so) (x_steps_a := x_steps_a) (s_heldRows_a := s_heldRows_a) (s_heldColumns_a := s_heldColumns_a) (s_heldSixties_a := s_heldSixties_a) (s_certain_a := s_certain_a) (to := to) (t_cells_a := t_cells_a) (t_sixties_a := t_sixties_a) C hK hLz hnd p2 x_stepCount u1.1 u1.2.1 u1.2.2.1 s_certain u1.2.2.2.1 u1.2.2.2.2.1 t_cells t_sixties t_rows res hQ _ (fun y4_67 s_kind_67 s_n_67 s_first_67 h H locs hP hS ls hl => ?_) kN (0 : Int32) (0 : Int32) u1.2.2.2.2.2.1 u1.2.2.2.2.2.2.1 u1.2.2.2.2.2.2.2 h _ _ hP hS ls (lv_sub hl [3, 5, 1, 0] rfl)
  refine lv_iload_n hx hb dX6_reading_67 rfl (lv_at hl 0 rfl) ?_
  refine lv_iconst (v := -1) hx hb dX6_reading_68 (by decide) ?_
  refine lv_icmp_ne (tgt := 77) hx hb dX6_reading_69 (by decide) (fun c9 => ?_) (fun c9 => ?_)
  · replace h := md_f c9 h
    refine lv_bipush (v := -6) hx hb dX6_reading_77 (by decide) ?_
    exact hQ (-6 : Int32) u1.1 u1.2.1 u1.2.2.1 u1.2.2.2.1 u1.2.2.2.2.1 s_kind_67 s_n_67 s_first_67 H locs 79 ls h hP hS dX6_reading_79
  replace h := md_t c9 h
  refine lv_iload hx hb dX6_reading_72 (lv_at hl 1 rfl) ?_
  refine lv_goto (tgt := 79) hx hb dX6_reading_74 (by decide) ?_
  exact hQ y4_67 u1.1 u1.2.1 u1.2.2.1 u1.2.2.2.1 u1.2.2.2.2.1 s_kind_67 s_n_67 s_first_67 H locs 79 ls h hP hS dX6_reading_79
set_option maxHeartbeats 4000000 in
theorem ctX6_reading_i (l : Launch) {D : va_G} {cI cT : ClassId} {xo wo x_tablets_a so x_steps_a s_heldRows_a s_heldColumns_a s_heldSixties_a s_certain_a to t_cells_a t_sixties_a : Nat} {x_refs : Nat → Option Nat} {aL : Nat × Nat} {x_stepCount : Int32} {s_heldRows : Nat → Int32} {s_heldColumns : Nat → Int32} {s_heldSixties : Nat → Int32} {s_certain : Nat → Int32} {s_heldCount : Int32} {s_rows : Int32} {s_kind : Int32} {s_n : Int32} {s_first : Int32} {t_cells : Nat → Int32} {t_sixties : Nat → Int32} {t_rows : Int32} {p1 : Int32} {p2 : Int32} {res : (Int32 × (Nat → Int32) × (Nat → Int32) × (Nat → Int32) × Int32 × Int32 × Int32 × Int32 × Int32)} (hnd : ([xo, x_tablets_a, so, s_heldRows_a, s_heldColumns_a, s_heldSixties_a, s_certain_a, to, t_cells_a, t_sixties_a] : List Nat).Nodup) (hti0 : vp_in p1 4) (htr0 : x_refs (Int32.toNatClampNeg p1) = some to) (hm : mX6_reading_i s_heldRows s_heldColumns s_heldSixties t_cells t_sixties t_rows p1 p2 = some res) : Met l yX6_reading wsX6_reading rmX6_reading_i (va_Pc [.ref xo, .int p1, .int p2] (kW D cI cT [(xo, .inr (3, [.ref wo, .ref x_tablets_a, .ref so, .ref x_steps_a, .int x_stepCount])), (x_tablets_a, .inl (cT, 4, .inr (.inr (.inr (.inr x_refs))))), (so, .inr (0, [.ref s_heldRows_a, .ref s_heldColumns_a, .ref s_heldSixties_a, .ref s_certain_a, .int s_heldCount, .int s_rows, .int s_kind, .int s_n, .int s_first])), (s_heldRows_a, .inl (cI, 24, .inl s_heldRows)), (s_heldColumns_a, .inl (cI, 24, .inl s_heldColumns)), (s_heldSixties_a, .inl (cI, 24, .inl s_heldSixties)), (s_certain_a, .inl (cI, 24, .inl s_certain)), (to, .inr (1, [.ref t_cells_a, .ref t_sixties_a, .int t_rows])), (t_cells_a, .inl (cI, 24, .inl t_cells)), (t_sixties_a, .inl (cI, 24, .inl t_sixties))] (some aL) (fun q => q ∈ ([xo, x_tablets_a, so, s_heldRows_a, s_heldColumns_a, s_heldSixties_a, s_certain_a, to, t_cells_a, t_sixties_a] : List Nat)))) (kX (some (.int res.1)) D [(xo, .inr (3, [.ref wo, .ref x_tablets_a, .ref so, .ref x_steps_a, .int x_stepCount])), (x_tablets_a, .inl (cT, 4, .inr (.inr (.inr (.inr x_refs))))), (so, .inr (0, [.ref s_heldRows_a, .ref s_heldColumns_a, .ref s_heldSixties_a, .ref s_certain_a, .int res.2.2.2.2.1, .int res.2.2.2.2.2.1, .int res.2.2.2.2.2.2.1, .int res.2.2.2.2.2.2.2.1, .int res.2.2.2.2.2.2.2.2])), (s_heldRows_a, .inl (cI, 24, .inl res.2.1)), (s_heldColumns_a, .inl (cI, 24, .inl res.2.2.1)), (s_heldSixties_a, .inl (cI, 24, .inl res.2.2.2.1)), (s_certain_a, .inl (cI, 24, .inl s_certain)), (to, .inr (1, [.ref t_cells_a, .ref t_sixties_a, .int t_rows])), (t_cells_a, .inl (cI, 24, .inl t_cells)), (t_sixties_a, .inl (cI, 24, .inl t_sixties))] (fun q => q ∈ ([xo, x_tablets_a, so, s_heldRows_a, s_heldColumns_a, s_heldSixties_a, s_certain_a, to, t_cells_a, t_sixties_a] : List Nat))) 0 0 (fun q => q ∈ ([xo, x_tablets_a, so, s_heldRows_a, s_heldColumns_a, s_heldSixties_a, s_certain_a, to, t_cells_a, t_sixties_a] : List Nat)) :=
  km (by decide) rfl (Nat.le_of_ble_eq_true rfl) (fun p e s m below meth c ls C hB hl => bX6_reading_i C p1 p2 hB.1 (hB.2.2 aL rfl) hnd hti0 htr0 x_stepCount s_heldRows s_heldColumns s_heldSixties s_certain s_heldCount s_rows s_kind s_n s_first t_cells t_sixties t_rows res (fun v s_heldRows1 s_heldColumns1 s_heldSixties1 s_heldCount1 s_rows1 s_kind1 s_n1 s_first1 H locs pc ls h hP hS hd => by obtain rfl := Option.some.inj h; exact kx_i C hP hS hd) hm s.heap [] hB.2.1 va_S.rf ls hl)
abbrev rmX6_reading_o : Room := { frames := 1, cells := 0, slots := 0, locals := 21 }
def mX6_reading_o (p1 : Int32) (p2 : Int32) : Option Int32 := (some (-1 : Int32))
set_option maxHeartbeats 4000000 in
set_option maxRecDepth 100000 in
theorem bX6_reading_o {p : Program} {l : Launch} {e : Env} {s : State} {m : MethodId} {args : Array Value} {below : List Frame} {meth : Method} {c : Code} {Q : State → Prop} (C : kc p s m args meth c cX6_reading 6 RX6 yX6_reading.name wsX6_reading (some .int)) {D : va_G} {cI cT : ClassId} {xo wo x_tablets_a so x_steps_a : Nat} {x_refs : Nat → Option Nat} (p1 : Int32) (p2 : Int32) (hK : va_K D vwCl (kTy cI cT) s) (hto0 : ¬ vp_in p1 4) (x_stepCount : Int32) (hP : va_P D vwCl [(xo, .inr (3, [.ref wo, .ref x_tablets_a, .ref so, .ref x_steps_a, .int x_stepCount])), (x_tablets_a, .inl (cT, 4, .inr (.inr (.inr (.inr x_refs)))))] s.heap) (res : Int32) (hQ : ∀ (v : Int32) (pc : Nat) (ls : Array Slot), some v = some res → decode cX6_reading pc = .ok (.ireturn, 1) → W p l e rmX6_reading_o s m args below meth c s.heap [] 0 0 Q (F0 m pc ls [.int v])) : mX6_reading_o p1 p2 = some res → ∀ (ls : Array Slot), lv_has ls 6 [(0, .ref xo), (1, .int p1), (2, .int p2)] → W p l e rmX6_reading_o s m args below meth c s.heap [] 0 0 Q (F0 m 0 ls []) := by
  intro h ls hl
  have C0 := C
  obtain ⟨hx, hb, hml, hown, hts, hr, hlk, hnm⟩ := C0
  rw [mX6_reading_o] at h
  refine lv_aload_n hx hb dX6_reading_0 rfl (lv_at hl 0 rfl) ?_
  refine lv_iload_n hx hb dX6_reading_1 rfl (lv_at hl 1 rfl) ?_
  refine kV C (ctX6_clayOf_o l hto0) gX6_reading_X6_clayOf rfl kdvX6_clayOf ⟨rfl, rfl⟩ ⟨by decide, by decide⟩ kW_blind (va_recv hK hP (ci := 3) (q0 := 0) rfl rfl) (kW_use hK (hP.sub (ws' := [(xo, .inr (3, [.ref wo, .ref x_tablets_a, .ref so, .ref x_steps_a, .int x_stepCount])), (x_tablets_a, .inl (cT, 4, .inr (.inr (.inr (.inr x_refs)))))]) [0, 1] rfl) kL_no) rfl hl [] rfl (Nat.le_of_ble_eq_true rfl) dX6_reading_2 ⟨by decide, by decide⟩ ?_
  refine lv_astore_nN (lv' := [(3, .null), (0, .ref xo), (1, .int p1), (2, .int p2)]) hx hb dX6_reading_5 rfl hl (by decide) rfl (fun ls hl => ?_)
  refine lv_aload_nN hx hb dX6_reading_6 rfl (lv_at hl 0 rfl) ?_
  refine lv_ifnonnullN hx hb dX6_reading_7 ?_
  refine lv_iconst (v := -1) hx hb dX6_reading_10 (by decide) ?_
  exact hQ (-1 : Int32) 11 ls h dX6_reading_11
set_option maxHeartbeats 4000000 in
theorem ctX6_reading_o (l : Launch) {D : va_G} {cI cT : ClassId} {xo wo x_tablets_a so x_steps_a : Nat} {x_refs : Nat → Option Nat} {x_stepCount : Int32} {p1 : Int32} {p2 : Int32} {res : Int32} (hto0 : ¬ vp_in p1 4) (hm : mX6_reading_o p1 p2 = some res) : Met l yX6_reading wsX6_reading rmX6_reading_o (va_Pc [.ref xo, .int p1, .int p2] (kW D cI cT [(xo, .inr (3, [.ref wo, .ref x_tablets_a, .ref so, .ref x_steps_a, .int x_stepCount])), (x_tablets_a, .inl (cT, 4, .inr (.inr (.inr (.inr x_refs)))))] none (fun _ => False))) (kR (.int res)) 0 0 (fun _ => False) :=
  km (by decide) rfl (Nat.le_of_ble_eq_true rfl) (fun p e s m below meth c ls C hB hl => bX6_reading_o C p1 p2 hB.1 hto0 x_stepCount hB.2.1 res (fun v pc ls h hd => kr_i C h hd) hm ls hl)
theorem wm_X6_sure_i_0 : Cond.fieldLink RX6 19 "SixtyTablet" "search" "LSixtyTablet$Search;" ∈ wsX6_sure := by decide +kernel
theorem wi_X6_sure_i_X6 : ∀ w ∈ wsX60, w ∈ wsX6_sure := by decide +kernel
theorem kdvX6_sure : yX6_sure.cls = RX6 ∧ yX6_sure.cls ≠ "java/lang/invoke/MethodHandle" ∧ yX6_sure.cls ≠ "java/lang/invoke/VarHandle" ∧ (parseMethodDescriptor yX6_sure.desc).map (fun d => d.parameters.length) = some 3 := by decide +kernel
abbrev rmX6_sure_i : Room := { frames := 6, cells := 0, slots := 0, locals := 133 }
def mX6_sure_i (s_heldRows : Nat → Int32) (s_heldColumns : Nat → Int32) (s_heldSixties : Nat → Int32) (s_certain : Nat → Int32) (s_heldCount : Int32) (s_rows : Int32) (s_kind : Int32) (s_n : Int32) (s_first : Int32) (t_cells : Nat → Int32) (t_sixties : Nat → Int32) (t_rows : Int32) (p1 : Int32) (p2 : Int32) (p3 : Int32) : Option (Int32 × (Nat → Int32) × (Nat → Int32) × (Nat → Int32) × (Nat → Int32) × Int32 × Int32 × Int32 × Int32 × Int32) := (Option.bind (mX3_hasCell t_rows p2 p3) (fun u1 => (if u1 = 0 then (some ((-1 : Int32), s_heldRows, s_heldColumns, s_heldSixties, s_certain, s_heldCount, s_rows, s_kind, s_n, s_first)) else (Option.bind (mX0_gatherSure s_heldRows s_heldColumns s_heldSixties s_certain t_cells t_sixties t_rows) (fun u3 => (Option.bind (mX0_sureIn u3.2.2.2.1 p2 p3) (fun u4 => (some (u4, u3.1, u3.2.1, u3.2.2.1, u3.2.2.2.1, u3.2.2.2.2.1, u3.2.2.2.2.2.1, u3.2.2.2.2.2.2.1, u3.2.2.2.2.2.2.2.1, u3.2.2.2.2.2.2.2.2)))))))))
set_option maxHeartbeats 4000000 in
set_option maxRecDepth 100000 in
theorem bX6_sure_i {p : Program} {l : Launch} {e : Env} {s : State} {m : MethodId} {args : Array Value} {below : List Frame} {meth : Method} {c : Code} {Q : State → Prop} (C : kc p s m args meth c cX6_sure 5 RX6 yX6_sure.name wsX6_sure (some .int)) {D : va_G} {cI cT : ClassId} {xo wo x_tablets_a so x_steps_a s_heldRows_a s_heldColumns_a s_heldSixties_a s_certain_a to t_cells_a t_sixties_a : Nat} {x_refs : Nat → Option Nat} {aL : Nat × Nat} (p1 : Int32) (p2 : Int32) (p3 : Int32) (hK : va_K D vwCl (kTy cI cT) s) (hLz : kLz aL (fun q => q ∈ ([xo, x_tablets_a, so, s_heldRows_a, s_heldColumns_a, s_heldSixties_a, s_certain_a, to, t_cells_a, t_sixties_a] : List Nat)) s s.heap) (hnd : ([xo, x_tablets_a, so, s_heldRows_a, s_heldColumns_a, s_heldSixties_a, s_certain_a, to, t_cells_a, t_sixties_a] : List Nat).Nodup) (hti0 : vp_in p1 4) (htr0 : x_refs (Int32.toNatClampNeg p1) = some to) (x_stepCount : Int32) (s_heldRows : Nat → Int32) (s_heldColumns : Nat → Int32) (s_heldSixties : Nat → Int32) (s_certain : Nat → Int32) (s_heldCount : Int32) (s_rows : Int32) (s_kind : Int32) (s_n : Int32) (s_first : Int32) (t_cells : Nat → Int32) (t_sixties : Nat → Int32) (t_rows : Int32) (res : (Int32 × (Nat → Int32) × (Nat → Int32) × (Nat → Int32) × (Nat → Int32) × Int32 × Int32 × Int32 × Int32 × Int32)) (hQ : ∀ (v : Int32) (s_heldRows : Nat → Int32) (s_heldColumns : Nat → Int32) (s_heldSixties : Nat → Int32) (s_certain : Nat → Int32) (s_heldCount : Int32) (s_rows : Int32) (s_kind : Int32) (s_n : Int32) (s_first : Int32) (H : Heap) (locs : List Loc) (pc : Nat) (ls : Array Slot), some (v, s_heldRows, s_heldColumns, s_heldSixties, s_certain, s_heldCount, s_rows, s_kind, s_n, s_first) = some res → va_P D vwCl [(xo, .inr (3, [.ref wo, .ref x_tablets_a, .ref so, .ref x_steps_a, .int x_stepCount])), (x_tablets_a, .inl (cT, 4, .inr (.inr (.inr (.inr x_refs))))), (so, .inr (0, [.ref s_heldRows_a, .ref s_heldColumns_a, .ref s_heldSixties_a, .ref s_certain_a, .int s_heldCount, .int s_rows, .int s_kind, .int s_n, .int s_first])), (s_heldRows_a, .inl (cI, 24, .inl s_heldRows)), (s_heldColumns_a, .inl (cI, 24, .inl s_heldColumns)), (s_heldSixties_a, .inl (cI, 24, .inl s_heldSixties)), (s_certain_a, .inl (cI, 24, .inl s_certain)), (to, .inr (1, [.ref t_cells_a, .ref t_sixties_a, .int t_rows])), (t_cells_a, .inl (cI, 24, .inl t_cells)), (t_sixties_a, .inl (cI, 24, .inl t_sixties))] H → va_S (fun q => q ∈ ([xo, x_tablets_a, so, s_heldRows_a, s_heldColumns_a, s_heldSixties_a, s_certain_a, to, t_cells_a, t_sixties_a] : List Nat)) s.heap H locs → decode cX6_sure pc = .ok (.ireturn, 1) → W p l e rmX6_sure_i s m args below meth c H locs 0 0 Q (F0 m pc ls [.int v])) : mX6_sure_i s_heldRows s_heldColumns s_heldSixties s_certain s_heldCount s_rows s_kind s_n s_first t_cells t_sixties t_rows p1 p2 p3 = some res → ∀ (H : Heap) (locs : List Loc), va_P D vwCl [(xo, .inr (3, [.ref wo, .ref x_tablets_a, .ref so, .ref x_steps_a, .int x_stepCount])), (x_tablets_a, .inl (cT, 4, .inr (.inr (.inr (.inr x_refs))))), (so, .inr (0, [.ref s_heldRows_a, .ref s_heldColumns_a, .ref s_heldSixties_a, .ref s_certain_a, .int s_heldCount, .int s_rows, .int s_kind, .int s_n, .int s_first])), (s_heldRows_a, .inl (cI, 24, .inl s_heldRows)), (s_heldColumns_a, .inl (cI, 24, .inl s_heldColumns)), (s_heldSixties_a, .inl (cI, 24, .inl s_heldSixties)), (s_certain_a, .inl (cI, 24, .inl s_certain)), (to, .inr (1, [.ref t_cells_a, .ref t_sixties_a, .int t_rows])), (t_cells_a, .inl (cI, 24, .inl t_cells)), (t_sixties_a, .inl (cI, 24, .inl t_sixties))] H → va_S (fun q => q ∈ ([xo, x_tablets_a, so, s_heldRows_a, s_heldColumns_a, s_heldSixties_a, s_certain_a, to, t_cells_a, t_sixties_a] : List Nat)) s.heap H locs → ∀ (ls : Array Slot), lv_has ls 5 [(0, .ref xo), (1, .int p1), (2, .int p2), (3, .int p3)] → W p l e rmX6_sure_i s m args below meth c H locs 0 0 Q (F0 m 0 ls []) := by
  intro h H locs hP hS ls hl
  have C0 := C
  obtain ⟨hx, hb, hml, hown, hts, hr, hlk, hnm⟩ := C0
  rw [mX6_sure_i] at h
  refine lv_aload_n hx hb dX6_sure_0 rfl (lv_at hl 0 rfl) ?_
  refine lv_iload_n hx hb dX6_sure_1 rfl (lv_at hl 1 rfl) ?_
  refine kV C (ctX6_clayOf_i l hti0 htr0) gX6_sure_X6_clayOf rfl kdvX6_clayOf ⟨rfl, rfl⟩ ⟨by decide, by decide⟩ kW_blind (va_recv hK hP (ci := 3) (q0 := 0) rfl rfl) (kW_use hK (hP.sub (ws' := [(xo, .inr (3, [.ref wo, .ref x_tablets_a, .ref so, .ref x_steps_a, .int x_stepCount])), (x_tablets_a, .inl (cT, 4, .inr (.inr (.inr (.inr x_refs)))))]) [0, 1] rfl) kL_no) rfl hl [] rfl (Nat.le_of_ble_eq_true rfl) dX6_sure_2 ⟨by decide, by decide⟩ ?_
  refine lv_astore (lv' := [(4, .ref to), (0, .ref xo), (1, .int p1), (2, .int p2), (3, .int p3)]) hx hb dX6_sure_5 hl (by decide) rfl (fun ls hl => ?_)
  refine lv_aload hx hb dX6_sure_7 (lv_at hl 0 rfl) ?_
  refine lv_ifnull hx hb dX6_sure_9 ?_
  refine lv_aload hx hb dX6_sure_12 (lv_at hl 0 rfl) ?_
  refine lv_iload_n hx hb dX6_sure_14 rfl (lv_at hl 3 rfl) ?_
  refine lv_iload_n hx hb dX6_sure_15 rfl (lv_at hl 4 rfl) ?_
  obtain ⟨u1, hu1, h⟩ := md_b h
  refine kV C (ctX3_hasCell l  hu1) gX6_sure_X3_hasCell rfl kdvX3_hasCell ⟨rfl, rfl⟩ ⟨by decide, by decide⟩ kW_blind (va_recv hK hP (ci := 1) (q0 := 7) rfl rfl) (kW_use hK (hP.sub (ws' := [(to, .inr (1, [.ref t_cells_a, .ref t_sixties_a, .int t_rows])), (t_cells_a, .inl (cI, 24, .inl t_cells)), (t_sixties_a, .inl (cI, 24, .inl t_sixties))]) [7, 8, 9] rfl) kL_no) rfl hl [] rfl (Nat.le_of_ble_eq_true rfl) dX6_sure_16 ⟨by decide, by decide⟩ ?_
  refine lv_if_ne (tgt := 24) hx hb dX6_sure_19 (by decide) (fun c2 => ?_) (fun c2 => ?_)
  · replace h := md_f c2 h
    refine lv_aload_n hx hb dX6_sure_24 rfl (lv_at hl 1 rfl) ?_
    refine va_get (D := D) (ci := 3) (v := .ref so) (C := RX6) (T := TX6) (N := 5) hx hb hts wi_X6_sure_i_X6 hown hK hP 0 rfl rfl 2 (by decide) (hts _ wm_X6_sure_i_0) (fun _ h9 => h9) rfl dX6_sure_25 ?_
    refine lv_aload hx hb dX6_sure_28 (lv_at hl 0 rfl) ?_
    obtain ⟨u3, hu3, h⟩ := md_b h
    refine kVx C (ctX0_gatherSure l (nd_sub hnd [2, 3, 4, 5, 6, 7, 8, 9] (by decide) rfl) hu3) gX6_sure_X0_gatherSure rfl kdvX0_gatherSure ⟨rfl, rfl⟩ ⟨by decide, by decide⟩ kW_blind (va_recv hK hP (ci := 0) (q0 := 2) rfl rfl) (kW_use hK (hP.sub (ws' := [(so, .inr (0, [.ref s_heldRows_a, .ref s_heldColumns_a, .ref s_heldSixties_a, .ref s_certain_a, .int s_heldCount, .int s_rows, .int s_kind, .int s_n, .int s_first])), (s_heldRows_a, .inl (cI, 24, .inl s_heldRows)), (s_heldColumns_a, .inl (cI, 24, .inl s_heldColumns)), (s_heldSixties_a, .inl (cI, 24, .inl s_heldSixties)), (s_certain_a, .inl (cI, 24, .inl s_certain)), (to, .inr (1, [.ref t_cells_a, .ref t_sixties_a, .int t_rows])), (t_cells_a, .inl (cI, 24, .inl t_cells)), (t_sixties_a, .inl (cI, 24, .inl t_sixties))]) [2, 3, 4, 5, 6, 7, 8, 9] rfl) (kL_at hLz hS (mem_sub [2, 3, 4, 5, 6, 7, 8, 9] rfl))) rfl hl [] rfl (Nat.le_of_ble_eq_true rfl) dX6_sure_30 ⟨by decide, by decide⟩ hS (mem_sub [2, 3, 4, 5, 6, 7, 8, 9] rfl) (fun H1 locs hP1 hk1 hS => ?_)
    replace hP : va_P D vwCl [(xo, .inr (3, [.ref wo, .ref x_tablets_a, .ref so, .ref x_steps_a, .int x_stepCount])), (x_tablets_a, .inl (cT, 4, .inr (.inr (.inr (.inr x_refs))))), (so, .inr (0, [.ref s_heldRows_a, .ref s_heldColumns_a, .ref s_heldSixties_a, .ref s_certain_a, .int u3.2.2.2.2.1, .int u3.2.2.2.2.2.1, .int u3.2.2.2.2.2.2.1, .int u3.2.2.2.2.2.2.2.1, .int u3.2.2.2.2.2.2.2.2])), (s_heldRows_a, .inl (cI, 24, .inl u3.1)), (s_heldColumns_a, .inl (cI, 24, .inl u3.2.1)), (s_heldSixties_a, .inl (cI, 24, .inl u3.2.2.1)), (s_certain_a, .inl (cI, 24, .inl u3.2.2.2.1)), (to, .inr (1, [.ref t_cells_a, .ref t_sixties_a, .int t_rows])), (t_cells_a, .inl (cI, 24, .inl t_cells)), (t_sixties_a, .inl (cI, 24, .inl t_sixties))] H1 := kjoin hnd rfl hP hP1 hk1 [2, 3, 4, 5, 6, 7, 8, 9] rfl [(false, 0), (false, 1), (true, 0), (true, 1), (true, 2), (true, 3), (true, 4), (true, 5), (true, 6), (true, 7)] rfl rfl
    clear hP1 hk1
    generalize H1 = H at hP hS ⊢
    refine lv_aload_n hx hb dX6_sure_33 rfl (lv_at hl 1 rfl) ?_
    refine va_get (D := D) (ci := 3) (v := .ref so) (C := RX6) (T := TX6) (N := 5) hx hb hts wi_X6_sure_i_X6 hown hK hP 0 rfl rfl 2 (by decide) (hts _ wm_X6_sure_i_0) (fun _ h9 => h9) rfl dX6_sure_34 ?_
    refine lv_iload_n hx hb dX6_sure_37 rfl (lv_at hl 3 rfl) ?_
    refine lv_iload_n hx hb dX6_sure_38 rfl (lv_at hl 4 rfl) ?_
    obtain ⟨u4, hu4, h⟩ := md_b h
    refine kV C (ctX0_sureIn l  hu4) gX6_sure_X0_sureIn rfl kdvX0_sureIn ⟨rfl, rfl⟩ ⟨by decide, by decide⟩ kW_blind (va_recv hK hP (ci := 0) (q0 := 2) rfl rfl) (kW_use hK (hP.sub (ws' := [(so, .inr (0, [.ref s_heldRows_a, .ref s_heldColumns_a, .ref s_heldSixties_a, .ref s_certain_a, .int u3.2.2.2.2.1, .int u3.2.2.2.2.2.1, .int u3.2.2.2.2.2.2.1, .int u3.2.2.2.2.2.2.2.1, .int u3.2.2.2.2.2.2.2.2])), (s_heldRows_a, .inl (cI, 24, .inl u3.1)), (s_heldColumns_a, .inl (cI, 24, .inl u3.2.1)), (s_heldSixties_a, .inl (cI, 24, .inl u3.2.2.1)), (s_certain_a, .inl (cI, 24, .inl u3.2.2.2.1))]) [2, 3, 4, 5, 6] rfl) kL_no) rfl hl [] rfl (Nat.le_of_ble_eq_true rfl) dX6_sure_39 ⟨by decide, by decide⟩ ?_
    exact hQ u4 u3.1 u3.2.1 u3.2.2.1 u3.2.2.2.1 u3.2.2.2.2.1 u3.2.2.2.2.2.1 u3.2.2.2.2.2.2.1 u3.2.2.2.2.2.2.2.1 u3.2.2.2.2.2.2.2.2 H locs 42 ls h hP hS dX6_sure_42
  replace h := md_t c2 h
  refine lv_iconst (v := -1) hx hb dX6_sure_22 (by decide) ?_
  exact hQ (-1 : Int32) s_heldRows s_heldColumns s_heldSixties s_certain s_heldCount s_rows s_kind s_n s_first H locs 23 ls h hP hS dX6_sure_23
set_option maxHeartbeats 4000000 in
theorem ctX6_sure_i (l : Launch) {D : va_G} {cI cT : ClassId} {xo wo x_tablets_a so x_steps_a s_heldRows_a s_heldColumns_a s_heldSixties_a s_certain_a to t_cells_a t_sixties_a : Nat} {x_refs : Nat → Option Nat} {aL : Nat × Nat} {x_stepCount : Int32} {s_heldRows : Nat → Int32} {s_heldColumns : Nat → Int32} {s_heldSixties : Nat → Int32} {s_certain : Nat → Int32} {s_heldCount : Int32} {s_rows : Int32} {s_kind : Int32} {s_n : Int32} {s_first : Int32} {t_cells : Nat → Int32} {t_sixties : Nat → Int32} {t_rows : Int32} {p1 : Int32} {p2 : Int32} {p3 : Int32} {res : (Int32 × (Nat → Int32) × (Nat → Int32) × (Nat → Int32) × (Nat → Int32) × Int32 × Int32 × Int32 × Int32 × Int32)} (hnd : ([xo, x_tablets_a, so, s_heldRows_a, s_heldColumns_a, s_heldSixties_a, s_certain_a, to, t_cells_a, t_sixties_a] : List Nat).Nodup) (hti0 : vp_in p1 4) (htr0 : x_refs (Int32.toNatClampNeg p1) = some to) (hm : mX6_sure_i s_heldRows s_heldColumns s_heldSixties s_certain s_heldCount s_rows s_kind s_n s_first t_cells t_sixties t_rows p1 p2 p3 = some res) : Met l yX6_sure wsX6_sure rmX6_sure_i (va_Pc [.ref xo, .int p1, .int p2, .int p3] (kW D cI cT [(xo, .inr (3, [.ref wo, .ref x_tablets_a, .ref so, .ref x_steps_a, .int x_stepCount])), (x_tablets_a, .inl (cT, 4, .inr (.inr (.inr (.inr x_refs))))), (so, .inr (0, [.ref s_heldRows_a, .ref s_heldColumns_a, .ref s_heldSixties_a, .ref s_certain_a, .int s_heldCount, .int s_rows, .int s_kind, .int s_n, .int s_first])), (s_heldRows_a, .inl (cI, 24, .inl s_heldRows)), (s_heldColumns_a, .inl (cI, 24, .inl s_heldColumns)), (s_heldSixties_a, .inl (cI, 24, .inl s_heldSixties)), (s_certain_a, .inl (cI, 24, .inl s_certain)), (to, .inr (1, [.ref t_cells_a, .ref t_sixties_a, .int t_rows])), (t_cells_a, .inl (cI, 24, .inl t_cells)), (t_sixties_a, .inl (cI, 24, .inl t_sixties))] (some aL) (fun q => q ∈ ([xo, x_tablets_a, so, s_heldRows_a, s_heldColumns_a, s_heldSixties_a, s_certain_a, to, t_cells_a, t_sixties_a] : List Nat)))) (kX (some (.int res.1)) D [(xo, .inr (3, [.ref wo, .ref x_tablets_a, .ref so, .ref x_steps_a, .int x_stepCount])), (x_tablets_a, .inl (cT, 4, .inr (.inr (.inr (.inr x_refs))))), (so, .inr (0, [.ref s_heldRows_a, .ref s_heldColumns_a, .ref s_heldSixties_a, .ref s_certain_a, .int res.2.2.2.2.2.1, .int res.2.2.2.2.2.2.1, .int res.2.2.2.2.2.2.2.1, .int res.2.2.2.2.2.2.2.2.1, .int res.2.2.2.2.2.2.2.2.2])), (s_heldRows_a, .inl (cI, 24, .inl res.2.1)), (s_heldColumns_a, .inl (cI, 24, .inl res.2.2.1)), (s_heldSixties_a, .inl (cI, 24, .inl res.2.2.2.1)), (s_certain_a, .inl (cI, 24, .inl res.2.2.2.2.1)), (to, .inr (1, [.ref t_cells_a, .ref t_sixties_a, .int t_rows])), (t_cells_a, .inl (cI, 24, .inl t_cells)), (t_sixties_a, .inl (cI, 24, .inl t_sixties))] (fun q => q ∈ ([xo, x_tablets_a, so, s_heldRows_a, s_heldColumns_a, s_heldSixties_a, s_certain_a, to, t_cells_a, t_sixties_a] : List Nat))) 0 0 (fun q => q ∈ ([xo, x_tablets_a, so, s_heldRows_a, s_heldColumns_a, s_heldSixties_a, s_certain_a, to, t_cells_a, t_sixties_a] : List Nat)) :=
  km (by decide) rfl (Nat.le_of_ble_eq_true rfl) (fun p e s m below meth c ls C hB hl => bX6_sure_i C p1 p2 p3 hB.1 (hB.2.2 aL rfl) hnd hti0 htr0 x_stepCount s_heldRows s_heldColumns s_heldSixties s_certain s_heldCount s_rows s_kind s_n s_first t_cells t_sixties t_rows res (fun v s_heldRows1 s_heldColumns1 s_heldSixties1 s_certain1 s_heldCount1 s_rows1 s_kind1 s_n1 s_first1 H locs pc ls h hP hS hd => by obtain rfl := Option.some.inj h; exact kx_i C hP hS hd) hm s.heap [] hB.2.1 va_S.rf ls hl)
abbrev rmX6_sure_o : Room := { frames := 1, cells := 0, slots := 0, locals := 21 }
def mX6_sure_o (p1 : Int32) (p2 : Int32) (p3 : Int32) : Option Int32 := (some (-1 : Int32))
set_option maxHeartbeats 4000000 in
set_option maxRecDepth 100000 in
theorem bX6_sure_o {p : Program} {l : Launch} {e : Env} {s : State} {m : MethodId} {args : Array Value} {below : List Frame} {meth : Method} {c : Code} {Q : State → Prop} (C : kc p s m args meth c cX6_sure 5 RX6 yX6_sure.name wsX6_sure (some .int)) {D : va_G} {cI cT : ClassId} {xo wo x_tablets_a so x_steps_a : Nat} {x_refs : Nat → Option Nat} (p1 : Int32) (p2 : Int32) (p3 : Int32) (hK : va_K D vwCl (kTy cI cT) s) (hto0 : ¬ vp_in p1 4) (x_stepCount : Int32) (hP : va_P D vwCl [(xo, .inr (3, [.ref wo, .ref x_tablets_a, .ref so, .ref x_steps_a, .int x_stepCount])), (x_tablets_a, .inl (cT, 4, .inr (.inr (.inr (.inr x_refs)))))] s.heap) (res : Int32) (hQ : ∀ (v : Int32) (pc : Nat) (ls : Array Slot), some v = some res → decode cX6_sure pc = .ok (.ireturn, 1) → W p l e rmX6_sure_o s m args below meth c s.heap [] 0 0 Q (F0 m pc ls [.int v])) : mX6_sure_o p1 p2 p3 = some res → ∀ (ls : Array Slot), lv_has ls 5 [(0, .ref xo), (1, .int p1), (2, .int p2), (3, .int p3)] → W p l e rmX6_sure_o s m args below meth c s.heap [] 0 0 Q (F0 m 0 ls []) := by
  intro h ls hl
  have C0 := C
  obtain ⟨hx, hb, hml, hown, hts, hr, hlk, hnm⟩ := C0
  rw [mX6_sure_o] at h
  refine lv_aload_n hx hb dX6_sure_0 rfl (lv_at hl 0 rfl) ?_
  refine lv_iload_n hx hb dX6_sure_1 rfl (lv_at hl 1 rfl) ?_
  refine kV C (ctX6_clayOf_o l hto0) gX6_sure_X6_clayOf rfl kdvX6_clayOf ⟨rfl, rfl⟩ ⟨by decide, by decide⟩ kW_blind (va_recv hK hP (ci := 3) (q0 := 0) rfl rfl) (kW_use hK (hP.sub (ws' := [(xo, .inr (3, [.ref wo, .ref x_tablets_a, .ref so, .ref x_steps_a, .int x_stepCount])), (x_tablets_a, .inl (cT, 4, .inr (.inr (.inr (.inr x_refs)))))]) [0, 1] rfl) kL_no) rfl hl [] rfl (Nat.le_of_ble_eq_true rfl) dX6_sure_2 ⟨by decide, by decide⟩ ?_
  refine lv_astoreN (lv' := [(4, .null), (0, .ref xo), (1, .int p1), (2, .int p2), (3, .int p3)]) hx hb dX6_sure_5 hl (by decide) rfl (fun ls hl => ?_)
  refine lv_aloadN hx hb dX6_sure_7 (lv_at hl 0 rfl) ?_
  refine lv_ifnullN (tgt := 22) hx hb dX6_sure_9 (by decide) ?_
  refine lv_iconst (v := -1) hx hb dX6_sure_22 (by decide) ?_
  exact hQ (-1 : Int32) 23 ls h dX6_sure_23
set_option maxHeartbeats 4000000 in
theorem ctX6_sure_o (l : Launch) {D : va_G} {cI cT : ClassId} {xo wo x_tablets_a so x_steps_a : Nat} {x_refs : Nat → Option Nat} {x_stepCount : Int32} {p1 : Int32} {p2 : Int32} {p3 : Int32} {res : Int32} (hto0 : ¬ vp_in p1 4) (hm : mX6_sure_o p1 p2 p3 = some res) : Met l yX6_sure wsX6_sure rmX6_sure_o (va_Pc [.ref xo, .int p1, .int p2, .int p3] (kW D cI cT [(xo, .inr (3, [.ref wo, .ref x_tablets_a, .ref so, .ref x_steps_a, .int x_stepCount])), (x_tablets_a, .inl (cT, 4, .inr (.inr (.inr (.inr x_refs)))))] none (fun _ => False))) (kR (.int res)) 0 0 (fun _ => False) :=
  km (by decide) rfl (Nat.le_of_ble_eq_true rfl) (fun p e s m below meth c ls C hB hl => bX6_sure_o C p1 p2 p3 hB.1 hto0 x_stepCount hB.2.1 res (fun v pc ls h hd => kr_i C h hd) hm ls hl)
theorem wm_X6_fill_i_0 : Cond.fieldLink RX6 19 "SixtyTablet" "search" "LSixtyTablet$Search;" ∈ wsX6_fill := by decide +kernel
theorem wi_X6_fill_i_X6 : ∀ w ∈ wsX60, w ∈ wsX6_fill := by decide +kernel
theorem kdvX6_fill : yX6_fill.cls = RX6 ∧ yX6_fill.cls ≠ "java/lang/invoke/MethodHandle" ∧ yX6_fill.cls ≠ "java/lang/invoke/VarHandle" ∧ (parseMethodDescriptor yX6_fill.desc).map (fun d => d.parameters.length) = some 1 := by decide +kernel
abbrev rmX6_fill_i : Room := { frames := 6, cells := 0, slots := 0, locals := 133 }
def mlX6_fill_i_37 (x4 : Int32) (s_certain : Nat → Int32) (kE : Int32 → (Nat → Int32) → (Nat → Int32) → Option (Int32 × (Nat → Int32) × (Nat → Int32) × (Nat → Int32) × (Nat → Int32) × Int32 × Int32 × Int32 × Int32 × Int32 × (Nat → Int32) × (Nat → Int32))) : Nat → Int32 → Int32 → (Nat → Int32) → (Nat → Int32) → Option (Int32 × (Nat → Int32) × (Nat → Int32) × (Nat → Int32) × (Nat → Int32) × Int32 × Int32 × Int32 × Int32 × Int32 × (Nat → Int32) × (Nat → Int32))
  | 0, _, _, _, _ => none
  | n + 1, x3, x5, t_cells, t_sixties => (if (3 : Int32) ≤ x5 then (kE x3 t_cells t_sixties) else (Option.bind (mX0_sureIn s_certain x4 x5) (fun u5 => (md_jn (fun (x3_85 : Int32) (t_cells_85 : Nat → Int32) (t_sixties_85 : Nat → Int32) => (md_let (x5 + (1 : Int32)) (fun (x5_6 : Int32) => (mlX6_fill_i_37 x4 s_certain kE n x3_85 x5_6 t_cells_85 t_sixties_85)))) (fun kJ85 => (if u5 = 0 then (kJ85 x3 t_cells t_sixties) else (Option.bind (mX3_held t_cells x4 x5) (fun u8 => (if u8 = 0 then (Option.bind (mX3_hold t_cells t_sixties x4 x5 u5) (fun u10 => (md_let (x3 + (1 : Int32)) (fun (x3_11 : Int32) => (kJ85 x3_11 u10.1 u10.2))))) else (kJ85 x3 t_cells t_sixties))))))))))
set_option maxHeartbeats 4000000 in
set_option maxRecDepth 100000 in
theorem lX6_fill_i_37 {p : Program} {l : Launch} {e : Env} {s : State} {m : MethodId} {args : Array Value} {below : List Frame} {meth : Method} {c : Code} {Q : State → Prop} (C : kc p s m args meth c cX6_fill 7 RX6 yX6_fill.name wsX6_fill (some .int)) {D : va_G} {cI cT : ClassId} {xo wo x_tablets_a so x_steps_a s_heldRows_a s_heldColumns_a s_heldSixties_a s_certain_a to t_cells_a t_sixties_a : Nat} {x_refs : Nat → Option Nat} {aL : Nat × Nat} (hK : va_K D vwCl (kTy cI cT) s) (hLz : kLz aL (fun q => q ∈ ([xo, x_tablets_a, so, s_heldRows_a, s_heldColumns_a, s_heldSixties_a, s_certain_a, to, t_cells_a, t_sixties_a] : List Nat)) s s.heap) (hnd : ([xo, x_tablets_a, so, s_heldRows_a, s_heldColumns_a, s_heldSixties_a, s_certain_a, to, t_cells_a, t_sixties_a] : List Nat).Nodup) (x4 : Int32) (x_stepCount : Int32) (s_heldRows : Nat → Int32) (s_heldColumns : Nat → Int32) (s_heldSixties : Nat → Int32) (s_certain : Nat → Int32) (s_heldCount : Int32) (s_rows : Int32) (s_kind : Int32) (s_n : Int32) (s_first : Int32) (t_rows : Int32) (res : (Int32 × (Nat → Int32) × (Nat → Int32) × (Nat → Int32) × (Nat → Int32) × Int32 × Int32 × Int32 × Int32 × Int32 × (Nat → Int32) × (Nat → Int32))) (hQ : ∀ (v : Int32) (s_heldRows : Nat → Int32) (s_heldColumns : Nat → Int32) (s_heldSixties : Nat → Int32) (s_certain : Nat → Int32) (s_heldCount : Int32) (s_rows : Int32) (s_kind : Int32) (s_n : Int32) (s_first : Int32) (t_cells : Nat → Int32) (t_sixties : Nat → Int32) (H : Heap) (locs : List Loc) (pc : Nat) (ls : Array Slot), some (v, s_heldRows, s_heldColumns, s_heldSixties, s_certain, s_heldCount, s_rows, s_kind, s_n, s_first, t_cells, t_sixties) = some res → va_P D vwCl [(xo, .inr (3, [.ref wo, .ref x_tablets_a, .ref so, .ref x_steps_a, .int x_stepCount])), (x_tablets_a, .inl (cT, 4, .inr (.inr (.inr (.inr x_refs))))), (so, .inr (0, [.ref s_heldRows_a, .ref s_heldColumns_a, .ref s_heldSixties_a, .ref s_certain_a, .int s_heldCount, .int s_rows, .int s_kind, .int s_n, .int s_first])), (s_heldRows_a, .inl (cI, 24, .inl s_heldRows)), (s_heldColumns_a, .inl (cI, 24, .inl s_heldColumns)), (s_heldSixties_a, .inl (cI, 24, .inl s_heldSixties)), (s_certain_a, .inl (cI, 24, .inl s_certain)), (to, .inr (1, [.ref t_cells_a, .ref t_sixties_a, .int t_rows])), (t_cells_a, .inl (cI, 24, .inl t_cells)), (t_sixties_a, .inl (cI, 24, .inl t_sixties))] H → va_S (fun q => q ∈ ([xo, x_tablets_a, so, s_heldRows_a, s_heldColumns_a, s_heldSixties_a, s_certain_a, to, t_cells_a, t_sixties_a] : List Nat)) s.heap H locs → decode cX6_fill pc = .ok (.ireturn, 1) → W p l e rmX6_fill_i s m args below meth c H locs 0 0 Q (F0 m pc ls [.int v])) (kE : Int32 → (Nat → Int32) → (Nat → Int32) → Option (Int32 × (Nat → Int32) × (Nat → Int32) × (Nat → Int32) × (Nat → Int32) × Int32 × Int32 × Int32 × Int32 × Int32 × (Nat → Int32) × (Nat → Int32))) (hE : ∀ (y3 : Int32) (t_cells : Nat → Int32) (t_sixties : Nat → Int32), kE y3 t_cells t_sixties = some res → ∀ (H : Heap) (locs : List Loc), va_P D vwCl [(xo, .inr (3, [.ref wo, .ref x_tablets_a, .ref so, .ref x_steps_a, .int x_stepCount])), (x_tablets_a, .inl (cT, 4, .inr (.inr (.inr (.inr x_refs))))), (so, .inr (0, [.ref s_heldRows_a, .ref s_heldColumns_a, .ref s_heldSixties_a, .ref s_certain_a, .int s_heldCount, .int s_rows, .int s_kind, .int s_n, .int s_first])), (s_heldRows_a, .inl (cI, 24, .inl s_heldRows)), (s_heldColumns_a, .inl (cI, 24, .inl s_heldColumns)), (s_heldSixties_a, .inl (cI, 24, .inl s_heldSixties)), (s_certain_a, .inl (cI, 24, .inl s_certain)), (to, .inr (1, [.ref t_cells_a, .ref t_sixties_a, .int t_rows])), (t_cells_a, .inl (cI, 24, .inl t_cells)), (t_sixties_a, .inl (cI, 24, .inl t_sixties))] H → va_S (fun q => q ∈ ([xo, x_tablets_a, so, s_heldRows_a, s_heldColumns_a, s_heldSixties_a, s_certain_a, to, t_cells_a, t_sixties_a] : List Nat)) s.heap H locs → ∀ (ls : Array Slot), lv_has ls 7 [(0, .ref xo), (2, .ref to), (3, .int y3), (4, .int x4)] → W p l e rmX6_fill_i s m args below meth c H locs 0 0 Q (F0 m 91 ls [])) : ∀ (n : Nat), ∀ (x3 : Int32) (x5 : Int32) (t_cells : Nat → Int32) (t_sixties : Nat → Int32), mlX6_fill_i_37 x4 s_certain kE n x3 x5 t_cells t_sixties = some res → ∀ (H : Heap) (locs : List Loc), va_P D vwCl [(xo, .inr (3, [.ref wo, .ref x_tablets_a, .ref so, .ref x_steps_a, .int x_stepCount])), (x_tablets_a, .inl (cT, 4, .inr (.inr (.inr (.inr x_refs))))), (so, .inr (0, [.ref s_heldRows_a, .ref s_heldColumns_a, .ref s_heldSixties_a, .ref s_certain_a, .int s_heldCount, .int s_rows, .int s_kind, .int s_n, .int s_first])), (s_heldRows_a, .inl (cI, 24, .inl s_heldRows)), (s_heldColumns_a, .inl (cI, 24, .inl s_heldColumns)), (s_heldSixties_a, .inl (cI, 24, .inl s_heldSixties)), (s_certain_a, .inl (cI, 24, .inl s_certain)), (to, .inr (1, [.ref t_cells_a, .ref t_sixties_a, .int t_rows])), (t_cells_a, .inl (cI, 24, .inl t_cells)), (t_sixties_a, .inl (cI, 24, .inl t_sixties))] H → va_S (fun q => q ∈ ([xo, x_tablets_a, so, s_heldRows_a, s_heldColumns_a, s_heldSixties_a, s_certain_a, to, t_cells_a, t_sixties_a] : List Nat)) s.heap H locs → ∀ (ls : Array Slot), lv_has ls 7 [(0, .ref xo), (2, .ref to), (3, .int x3), (4, .int x4), (5, .int x5)] → W p l e rmX6_fill_i s m args below meth c H locs 0 0 Q (F0 m 37 ls []) := by
  have C0 := C
  obtain ⟨hx, hb, hml, hown, hts, hr, hlk, hnm⟩ := C0
  intro n
  induction n with
  | zero => intro _ _ _ _ h; exact md_x h
  | succ n ih =>
    intro x3 x5 t_cells t_sixties h H locs hP hS ls hl
    rw [mlX6_fill_i_37] at h
    refine lv_iload hx hb dX6_fill_37 (lv_at hl 4 rfl) ?_
    refine lv_iconst (v := 3) hx hb dX6_fill_39 (by decide) ?_
    refine lv_icmp_ge (tgt := 91) hx hb dX6_fill_40 (by decide) (fun c4 => ?_) (fun c4 => ?_)
    · replace h := md_t c4 h
      exact hE x3 t_cells t_sixties h _ _ hP hS ls (lv_sub hl [0, 1, 2, 3] rfl)
    replace h := md_f c4 h
    refine lv_aload_n hx hb dX6_fill_43 rfl (lv_at hl 0 rfl) ?_
    refine va_get (D := D) (ci := 3) (v := .ref so) (C := RX6) (T := TX6) (N := 5) hx hb hts wi_X6_fill_i_X6 hown hK hP 0 rfl rfl 2 (by decide) (hts _ wm_X6_fill_i_0) (fun _ h9 => h9) rfl dX6_fill_44 ?_
    refine lv_iload hx hb dX6_fill_47 (lv_at hl 3 rfl) ?_
    refine lv_iload hx hb dX6_fill_49 (lv_at hl 4 rfl) ?_
    obtain ⟨u5, hu5, h⟩ := md_b h
    refine kV C (ctX0_sureIn l  hu5) gX6_fill_X0_sureIn rfl kdvX0_sureIn ⟨rfl, rfl⟩ ⟨by decide, by decide⟩ kW_blind (va_recv hK hP (ci := 0) (q0 := 2) rfl rfl) (kW_use hK (hP.sub (ws' := [(so, .inr (0, [.ref s_heldRows_a, .ref s_heldColumns_a, .ref s_heldSixties_a, .ref s_certain_a, .int s_heldCount, .int s_rows, .int s_kind, .int s_n, .int s_first])), (s_heldRows_a, .inl (cI, 24, .inl s_heldRows)), (s_heldColumns_a, .inl (cI, 24, .inl s_heldColumns)), (s_heldSixties_a, .inl (cI, 24, .inl s_heldSixties)), (s_certain_a, .inl (cI, 24, .inl s_certain))]) [2, 3, 4, 5, 6] rfl) kL_no) rfl hl [] rfl (Nat.le_of_ble_eq_true rfl) dX6_fill_51 ⟨by decide, by decide⟩ ?_
    refine lv_istore (lv' := [(6, .int u5), (0, .ref xo), (2, .ref to), (3, .int x3), (4, .int x4), (5, .int x5)]) hx hb dX6_fill_54 hl (by decide) rfl (fun ls hl => ?_)
    refine lv_iload hx hb dX6_fill_56 (lv_at hl 0 rfl) ?_
    obtain ⟨kJ85, ekJ85, h⟩ := md_jo h
    have KJ85 : ∀ (x3_85 : Int32) (t_cells_85 : Nat → Int32) (t_sixties_85 : Nat → Int32), kJ85 x3_85 t_cells_85 t_sixties_85 = some res → ∀ (H : Heap) (locs : List Loc), va_P D vwCl [(xo, .inr (3, [.ref wo, .ref x_tablets_a, .ref so, .ref x_steps_a, .int x_stepCount])), (x_tablets_a, .inl (cT, 4, .inr (.inr (.inr (.inr x_refs))))), (so, .inr (0, [.ref s_heldRows_a, .ref s_heldColumns_a, .ref s_heldSixties_a, .ref s_certain_a, .int s_heldCount, .int s_rows, .int s_kind, .int s_n, .int s_first])), (s_heldRows_a, .inl (cI, 24, .inl s_heldRows)), (s_heldColumns_a, .inl (cI, 24, .inl s_heldColumns)), (s_heldSixties_a, .inl (cI, 24, .inl s_heldSixties)), (s_certain_a, .inl (cI, 24, .inl s_certain)), (to, .inr (1, [.ref t_cells_a, .ref t_sixties_a, .int t_rows])), (t_cells_a, .inl (cI, 24, .inl t_cells_85)), (t_sixties_a, .inl (cI, 24, .inl t_sixties_85))] H → va_S (fun q => q ∈ ([xo, x_tablets_a, so, s_heldRows_a, s_heldColumns_a, s_heldSixties_a, s_certain_a, to, t_cells_a, t_sixties_a] : List Nat)) s.heap H locs → ∀ (ls : Array Slot), lv_has ls 7 [(0, .ref xo), (2, .ref to), (3, .int x3_85), (4, .int x4), (5, .int x5)] → W p l e rmX6_fill_i s m args below meth c H locs 0 0 Q (F0 m 85 ls []) := by
      intro x3_85 t_cells_85 t_sixties_85 h H locs hP hS ls hl
      rw [ekJ85] at h
      obtain ⟨x5_6, ex5_6⟩ : ∃ y : Int32, y = (x5 + (1 : Int32)) := ⟨_, rfl⟩
      replace h := md_le ex5_6 h
      refine lv_iinc (v := x5_6) (lv' := [(5, .int x5_6), (0, .ref xo), (2, .ref to), (3, .int x3_85), (4, .int x4)]) hx hb dX6_fill_85 hl (k := 4) rfl (by rw [ex5_6]; rfl) (by decide) rfl (fun ls hl => ?_)
      refine lv_goto (tgt := 37) hx hb dX6_fill_88 (by decide) ?_
      exact ih x3_85 x5_6 t_cells_85 t_sixties_85 h _ _ hP hS ls (lv_sub hl [1, 2, 3, 4, 0] rfl)
    clear ekJ85
    refine lv_if_eq (tgt := 85) hx hb dX6_fill_58 (by decide) (fun c7 => ?_) (fun c7 => ?_)
    · replace h := md_t c7 h
      exact KJ85 x3 t_cells t_sixties h _ _ hP hS ls (lv_sub hl [1, 2, 3, 4, 5] rfl)
    replace h := md_f c7 h
    refine lv_aload_n hx hb dX6_fill_61 rfl (lv_at hl 2 rfl) ?_
    refine lv_iload hx hb dX6_fill_62 (lv_at hl 4 rfl) ?_
    refine lv_iload hx hb dX6_fill_64 (lv_at hl 5 rfl) ?_
    obtain ⟨u8, hu8, h⟩ := md_b h
    refine kV C (ctX3_held l  hu8) gX6_fill_X3_held rfl kdvX3_held ⟨rfl, rfl⟩ ⟨by decide, by decide⟩ kW_blind (va_recv hK hP (ci := 1) (q0 := 7) rfl rfl) (kW_use hK (hP.sub (ws' := [(to, .inr (1, [.ref t_cells_a, .ref t_sixties_a, .int t_rows])), (t_cells_a, .inl (cI, 24, .inl t_cells)), (t_sixties_a, .inl (cI, 24, .inl t_sixties))]) [7, 8, 9] rfl) kL_no) rfl hl [] rfl (Nat.le_of_ble_eq_true rfl) dX6_fill_66 ⟨by decide, by decide⟩ ?_
    refine lv_if_ne (tgt := 85) hx hb dX6_fill_69 (by decide) (fun c9 => ?_) (fun c9 => ?_)
    · replace h := md_f c9 h
      exact KJ85 x3 t_cells t_sixties h _ _ hP hS ls (lv_sub hl [1, 2, 3, 4, 5] rfl)
    replace h := md_t c9 h
    refine lv_aload_n hx hb dX6_fill_72 rfl (lv_at hl 2 rfl) ?_
    refine lv_iload hx hb dX6_fill_73 (lv_at hl 4 rfl) ?_
    refine lv_iload hx hb dX6_fill_75 (lv_at hl 5 rfl) ?_
    refine lv_iload hx hb dX6_fill_77 (lv_at hl 0 rfl) ?_
    obtain ⟨u10, hu10, h⟩ := md_b h
    refine kVx C (ctX3_hold l (nd_sub hnd [7, 8, 9] (by decide) rfl) hu10) gX6_fill_X3_hold rfl kdvX3_hold ⟨rfl, rfl⟩ ⟨by decide, by decide⟩ kW_blind (va_recv hK hP (ci := 1) (q0 := 7) rfl rfl) (kW_use hK (hP.sub (ws' := [(to, .inr (1, [.ref t_cells_a, .ref t_sixties_a, .int t_rows])), (t_cells_a, .inl (cI, 24, .inl t_cells)), (t_sixties_a, .inl (cI, 24, .inl t_sixties))]) [7, 8, 9] rfl) kL_no) rfl hl [] rfl (Nat.le_of_ble_eq_true rfl) dX6_fill_79 ⟨by decide, by decide⟩ hS (mem_sub [7, 8, 9] rfl) (fun H1 locs hP1 hk1 hS => ?_)
    replace hP : va_P D vwCl [(xo, .inr (3, [.ref wo, .ref x_tablets_a, .ref so, .ref x_steps_a, .int x_stepCount])), (x_tablets_a, .inl (cT, 4, .inr (.inr (.inr (.inr x_refs))))), (so, .inr (0, [.ref s_heldRows_a, .ref s_heldColumns_a, .ref s_heldSixties_a, .ref s_certain_a, .int s_heldCount, .int s_rows, .int s_kind, .int s_n, .int s_first])), (s_heldRows_a, .inl (cI, 24, .inl s_heldRows)), (s_heldColumns_a, .inl (cI, 24, .inl s_heldColumns)), (s_heldSixties_a, .inl (cI, 24, .inl s_heldSixties)), (s_certain_a, .inl (cI, 24, .inl s_certain)), (to, .inr (1, [.ref t_cells_a, .ref t_sixties_a, .int t_rows])), (t_cells_a, .inl (cI, 24, .inl u10.1)), (t_sixties_a, .inl (cI, 24, .inl u10.2))] H1 := kjoin hnd rfl hP hP1 hk1 [7, 8, 9] rfl [(false, 0), (false, 1), (false, 2), (false, 3), (false, 4), (false, 5), (false, 6), (true, 0), (true, 1), (true, 2)] rfl rfl
    clear hP1 hk1
    generalize H1 = H at hP hS ⊢
    obtain ⟨x3_11, ex3_11⟩ : ∃ y : Int32, y = (x3 + (1 : Int32)) := ⟨_, rfl⟩
    replace h := md_le ex3_11 h
    refine lv_iinc (v := x3_11) (lv' := [(3, .int x3_11), (6, .int u5), (0, .ref xo), (2, .ref to), (4, .int x4), (5, .int x5)]) hx hb dX6_fill_82 hl (k := 3) rfl (by rw [ex3_11]; rfl) (by decide) rfl (fun ls hl => ?_)
    exact KJ85 x3_11 u10.1 u10.2 h _ _ hP hS ls (lv_sub hl [2, 3, 0, 4, 5] rfl)
def mlX6_fill_i_25 (s_certain : Nat → Int32) (t_rows : Int32) (kE : Int32 → (Nat → Int32) → (Nat → Int32) → Option (Int32 × (Nat → Int32) × (Nat → Int32) × (Nat → Int32) × (Nat → Int32) × Int32 × Int32 × Int32 × Int32 × Int32 × (Nat → Int32) × (Nat → Int32))) : Nat → Int32 → Int32 → (Nat → Int32) → (Nat → Int32) → Option (Int32 × (Nat → Int32) × (Nat → Int32) × (Nat → Int32) × (Nat → Int32) × Int32 × Int32 × Int32 × Int32 × Int32 × (Nat → Int32) × (Nat → Int32))
  | 0, _, _, _, _ => none
  | n + 1, x3, x4, t_cells, t_sixties => (Option.bind (mX3_rowCount t_rows) (fun u2 => (if u2 ≤ x4 then (kE x3 t_cells t_sixties) else (mlX6_fill_i_37 x4 s_certain (fun (y3_91 : Int32) (t_cells_91 : Nat → Int32) (t_sixties_91 : Nat → Int32) => (md_let (x4 + (1 : Int32)) (fun (x4_12 : Int32) => (mlX6_fill_i_25 s_certain t_rows kE n y3_91 x4_12 t_cells_91 t_sixties_91)))) kN x3 (0 : Int32) t_cells t_sixties))))
set_option maxHeartbeats 4000000 in
set_option maxRecDepth 100000 in
theorem lX6_fill_i_25 {p : Program} {l : Launch} {e : Env} {s : State} {m : MethodId} {args : Array Value} {below : List Frame} {meth : Method} {c : Code} {Q : State → Prop} (C : kc p s m args meth c cX6_fill 7 RX6 yX6_fill.name wsX6_fill (some .int)) {D : va_G} {cI cT : ClassId} {xo wo x_tablets_a so x_steps_a s_heldRows_a s_heldColumns_a s_heldSixties_a s_certain_a to t_cells_a t_sixties_a : Nat} {x_refs : Nat → Option Nat} {aL : Nat × Nat} (hK : va_K D vwCl (kTy cI cT) s) (hLz : kLz aL (fun q => q ∈ ([xo, x_tablets_a, so, s_heldRows_a, s_heldColumns_a, s_heldSixties_a, s_certain_a, to, t_cells_a, t_sixties_a] : List Nat)) s s.heap) (hnd : ([xo, x_tablets_a, so, s_heldRows_a, s_heldColumns_a, s_heldSixties_a, s_certain_a, to, t_cells_a, t_sixties_a] : List Nat).Nodup) (x_stepCount : Int32) (s_heldRows : Nat → Int32) (s_heldColumns : Nat → Int32) (s_heldSixties : Nat → Int32) (s_certain : Nat → Int32) (s_heldCount : Int32) (s_rows : Int32) (s_kind : Int32) (s_n : Int32) (s_first : Int32) (t_rows : Int32) (res : (Int32 × (Nat → Int32) × (Nat → Int32) × (Nat → Int32) × (Nat → Int32) × Int32 × Int32 × Int32 × Int32 × Int32 × (Nat → Int32) × (Nat → Int32))) (hQ : ∀ (v : Int32) (s_heldRows : Nat → Int32) (s_heldColumns : Nat → Int32) (s_heldSixties : Nat → Int32) (s_certain : Nat → Int32) (s_heldCount : Int32) (s_rows : Int32) (s_kind : Int32) (s_n : Int32) (s_first : Int32) (t_cells : Nat → Int32) (t_sixties : Nat → Int32) (H : Heap) (locs : List Loc) (pc : Nat) (ls : Array Slot), some (v, s_heldRows, s_heldColumns, s_heldSixties, s_certain, s_heldCount, s_rows, s_kind, s_n, s_first, t_cells, t_sixties) = some res → va_P D vwCl [(xo, .inr (3, [.ref wo, .ref x_tablets_a, .ref so, .ref x_steps_a, .int x_stepCount])), (x_tablets_a, .inl (cT, 4, .inr (.inr (.inr (.inr x_refs))))), (so, .inr (0, [.ref s_heldRows_a, .ref s_heldColumns_a, .ref s_heldSixties_a, .ref s_certain_a, .int s_heldCount, .int s_rows, .int s_kind, .int s_n, .int s_first])), (s_heldRows_a, .inl (cI, 24, .inl s_heldRows)), (s_heldColumns_a, .inl (cI, 24, .inl s_heldColumns)), (s_heldSixties_a, .inl (cI, 24, .inl s_heldSixties)), (s_certain_a, .inl (cI, 24, .inl s_certain)), (to, .inr (1, [.ref t_cells_a, .ref t_sixties_a, .int t_rows])), (t_cells_a, .inl (cI, 24, .inl t_cells)), (t_sixties_a, .inl (cI, 24, .inl t_sixties))] H → va_S (fun q => q ∈ ([xo, x_tablets_a, so, s_heldRows_a, s_heldColumns_a, s_heldSixties_a, s_certain_a, to, t_cells_a, t_sixties_a] : List Nat)) s.heap H locs → decode cX6_fill pc = .ok (.ireturn, 1) → W p l e rmX6_fill_i s m args below meth c H locs 0 0 Q (F0 m pc ls [.int v])) (kE : Int32 → (Nat → Int32) → (Nat → Int32) → Option (Int32 × (Nat → Int32) × (Nat → Int32) × (Nat → Int32) × (Nat → Int32) × Int32 × Int32 × Int32 × Int32 × Int32 × (Nat → Int32) × (Nat → Int32))) (hE : ∀ (y3 : Int32) (t_cells : Nat → Int32) (t_sixties : Nat → Int32), kE y3 t_cells t_sixties = some res → ∀ (H : Heap) (locs : List Loc), va_P D vwCl [(xo, .inr (3, [.ref wo, .ref x_tablets_a, .ref so, .ref x_steps_a, .int x_stepCount])), (x_tablets_a, .inl (cT, 4, .inr (.inr (.inr (.inr x_refs))))), (so, .inr (0, [.ref s_heldRows_a, .ref s_heldColumns_a, .ref s_heldSixties_a, .ref s_certain_a, .int s_heldCount, .int s_rows, .int s_kind, .int s_n, .int s_first])), (s_heldRows_a, .inl (cI, 24, .inl s_heldRows)), (s_heldColumns_a, .inl (cI, 24, .inl s_heldColumns)), (s_heldSixties_a, .inl (cI, 24, .inl s_heldSixties)), (s_certain_a, .inl (cI, 24, .inl s_certain)), (to, .inr (1, [.ref t_cells_a, .ref t_sixties_a, .int t_rows])), (t_cells_a, .inl (cI, 24, .inl t_cells)), (t_sixties_a, .inl (cI, 24, .inl t_sixties))] H → va_S (fun q => q ∈ ([xo, x_tablets_a, so, s_heldRows_a, s_heldColumns_a, s_heldSixties_a, s_certain_a, to, t_cells_a, t_sixties_a] : List Nat)) s.heap H locs → ∀ (ls : Array Slot), lv_has ls 7 [(3, .int y3)] → W p l e rmX6_fill_i s m args below meth c H locs 0 0 Q (F0 m 97 ls [])) : ∀ (n : Nat), ∀ (x3 : Int32) (x4 : Int32) (t_cells : Nat → Int32) (t_sixties : Nat → Int32), mlX6_fill_i_25 s_certain t_rows kE n x3 x4 t_cells t_sixties = some res → ∀ (H : Heap) (locs : List Loc), va_P D vwCl [(xo, .inr (3, [.ref wo, .ref x_tablets_a, .ref so, .ref x_steps_a, .int x_stepCount])), (x_tablets_a, .inl (cT, 4, .inr (.inr (.inr (.inr x_refs))))), (so, .inr (0, [.ref s_heldRows_a, .ref s_heldColumns_a, .ref s_heldSixties_a, .ref s_certain_a, .int s_heldCount, .int s_rows, .int s_kind, .int s_n, .int s_first])), (s_heldRows_a, .inl (cI, 24, .inl s_heldRows)), (s_heldColumns_a, .inl (cI, 24, .inl s_heldColumns)), (s_heldSixties_a, .inl (cI, 24, .inl s_heldSixties)), (s_certain_a, .inl (cI, 24, .inl s_certain)), (to, .inr (1, [.ref t_cells_a, .ref t_sixties_a, .int t_rows])), (t_cells_a, .inl (cI, 24, .inl t_cells)), (t_sixties_a, .inl (cI, 24, .inl t_sixties))] H → va_S (fun q => q ∈ ([xo, x_tablets_a, so, s_heldRows_a, s_heldColumns_a, s_heldSixties_a, s_certain_a, to, t_cells_a, t_sixties_a] : List Nat)) s.heap H locs → ∀ (ls : Array Slot), lv_has ls 7 [(0, .ref xo), (2, .ref to), (3, .int x3), (4, .int x4)] → W p l e rmX6_fill_i s m args below meth c H locs 0 0 Q (F0 m 25 ls []) := by
  have C0 := C
  obtain ⟨hx, hb, hml, hown, hts, hr, hlk, hnm⟩ := C0
  intro n
  induction n with
  | zero => intro _ _ _ _ h; exact md_x h
  | succ n ih =>
    intro x3 x4 t_cells t_sixties h H locs hP hS ls hl
    rw [mlX6_fill_i_25] at h
    refine lv_iload hx hb dX6_fill_25 (lv_at hl 3 rfl) ?_
    refine lv_aload_n hx hb dX6_fill_27 rfl (lv_at hl 1 rfl) ?_
    obtain ⟨u2, hu2, h⟩ := md_b h
    refine kV C (ctX3_rowCount l  hu2) gX6_fill_X3_rowCount rfl kdvX3_rowCount ⟨rfl, rfl⟩ ⟨by decide, by decide⟩ kW_blind (va_recv hK hP (ci := 1) (q0 := 7) rfl rfl) (kW_use hK (hP.sub (ws' := [(to, .inr (1, [.ref t_cells_a, .ref t_sixties_a, .int t_rows])), (t_cells_a, .inl (cI, 24, .inl t_cells)), (t_sixties_a, .inl (cI, 24, .inl t_sixties))]) [7, 8, 9] rfl) kL_no) rfl hl [.int x4] rfl (Nat.le_of_ble_eq_true rfl) dX6_fill_28 ⟨by decide, by decide⟩ ?_
    refine lv_icmp_ge (tgt := 97) hx hb dX6_fill_31 (by decide) (fun c3 => ?_) (fun c3 => ?_)
    · replace h := md_t c3 h
      exact hE x3 t_cells t_sixties h _ _ hP hS ls (lv_sub hl [2] rfl)
    replace h := md_f c3 h
    refine lv_iconst (v := 0) hx hb dX6_fill_34 (by decide) ?_
    refine lv_istore (lv' := [(5, .int (0 : Int32)), (0, .ref xo), (2, .ref to), (3, .int x3), (4, .int x4)]) hx hb dX6_fill_35 hl (by decide) rfl (fun ls hl => ?_)
    refine lX6_fill_i_37 (xo := xo) (wo := wo) (x_tablets_a := x_tablets_a) (so := so) (x_steps_a := x_steps_a) (s_heldRows_a := s_heldRows_a) (s_heldColumns_a := s_heldColumns_a) (s_heldSixties_a := s_heldSixties_a) (s_certain_a := s_certain_a) (to := to) (t_cells_a := t_cells_a) (t_sixties_a := t_sixties_a) C hK hLz hnd x4 x_stepCount s_heldRows s_heldColumns s_heldSixties s_certain s_heldCount s_rows s_kind s_n s_first t_rows res hQ _ (fun y3_91 t_cells_91 t_sixties_91 h H locs hP hS ls hl => ?_) kN x3 (0 : Int32) t_cells t_sixties h _ _ hP hS ls (lv_sub hl [1, 2, 3, 4, 0] rfl)
    obtain ⟨x4_12, ex4_12⟩ : ∃ y : Int32, y = (x4 + (1 : Int32)) := ⟨_, rfl⟩
    replace h := md_le ex4_12 h
    refine lv_iinc (v := x4_12) (lv' := [(4, .int x4_12), (0, .ref xo), (2, .ref to), (3, .int y3_91)]) hx hb dX6_fill_91 hl (k := 3) rfl (by rw [ex4_12]; rfl) (by decide) rfl (fun ls hl => ?_)
    refine lv_goto (tgt := 25) hx hb dX6_fill_94 (by decide) ?_
    exact ih y3_91 x4_12 t_cells_91 t_sixties_91 h _ _ hP hS ls (lv_sub hl [1, 2, 3, 0] rfl)
def mX6_fill_i (s_heldRows : Nat → Int32) (s_heldColumns : Nat → Int32) (s_heldSixties : Nat → Int32) (s_certain : Nat → Int32) (t_cells : Nat → Int32) (t_sixties : Nat → Int32) (t_rows : Int32) (p1 : Int32) : Option (Int32 × (Nat → Int32) × (Nat → Int32) × (Nat → Int32) × (Nat → Int32) × Int32 × Int32 × Int32 × Int32 × Int32 × (Nat → Int32) × (Nat → Int32)) := (Option.bind (mX0_gatherSure s_heldRows s_heldColumns s_heldSixties s_certain t_cells t_sixties t_rows) (fun u1 => (mlX6_fill_i_25 u1.2.2.2.1 t_rows (fun (y3_97 : Int32) (t_cells_97 : Nat → Int32) (t_sixties_97 : Nat → Int32) => (some (y3_97, u1.1, u1.2.1, u1.2.2.1, u1.2.2.2.1, u1.2.2.2.2.1, u1.2.2.2.2.2.1, u1.2.2.2.2.2.2.1, u1.2.2.2.2.2.2.2.1, u1.2.2.2.2.2.2.2.2, t_cells_97, t_sixties_97))) kN (0 : Int32) (0 : Int32) t_cells t_sixties)))
set_option maxHeartbeats 4000000 in
set_option maxRecDepth 100000 in
theorem bX6_fill_i {p : Program} {l : Launch} {e : Env} {s : State} {m : MethodId} {args : Array Value} {below : List Frame} {meth : Method} {c : Code} {Q : State → Prop} (C : kc p s m args meth c cX6_fill 7 RX6 yX6_fill.name wsX6_fill (some .int)) {D : va_G} {cI cT : ClassId} {xo wo x_tablets_a so x_steps_a s_heldRows_a s_heldColumns_a s_heldSixties_a s_certain_a to t_cells_a t_sixties_a : Nat} {x_refs : Nat → Option Nat} {aL : Nat × Nat} (p1 : Int32) (hK : va_K D vwCl (kTy cI cT) s) (hLz : kLz aL (fun q => q ∈ ([xo, x_tablets_a, so, s_heldRows_a, s_heldColumns_a, s_heldSixties_a, s_certain_a, to, t_cells_a, t_sixties_a] : List Nat)) s s.heap) (hnd : ([xo, x_tablets_a, so, s_heldRows_a, s_heldColumns_a, s_heldSixties_a, s_certain_a, to, t_cells_a, t_sixties_a] : List Nat).Nodup) (hti0 : vp_in p1 4) (htr0 : x_refs (Int32.toNatClampNeg p1) = some to) (x_stepCount : Int32) (s_heldRows : Nat → Int32) (s_heldColumns : Nat → Int32) (s_heldSixties : Nat → Int32) (s_certain : Nat → Int32) (s_heldCount : Int32) (s_rows : Int32) (s_kind : Int32) (s_n : Int32) (s_first : Int32) (t_cells : Nat → Int32) (t_sixties : Nat → Int32) (t_rows : Int32) (res : (Int32 × (Nat → Int32) × (Nat → Int32) × (Nat → Int32) × (Nat → Int32) × Int32 × Int32 × Int32 × Int32 × Int32 × (Nat → Int32) × (Nat → Int32))) (hQ : ∀ (v : Int32) (s_heldRows : Nat → Int32) (s_heldColumns : Nat → Int32) (s_heldSixties : Nat → Int32) (s_certain : Nat → Int32) (s_heldCount : Int32) (s_rows : Int32) (s_kind : Int32) (s_n : Int32) (s_first : Int32) (t_cells : Nat → Int32) (t_sixties : Nat → Int32) (H : Heap) (locs : List Loc) (pc : Nat) (ls : Array Slot), some (v, s_heldRows, s_heldColumns, s_heldSixties, s_certain, s_heldCount, s_rows, s_kind, s_n, s_first, t_cells, t_sixties) = some res → va_P D vwCl [(xo, .inr (3, [.ref wo, .ref x_tablets_a, .ref so, .ref x_steps_a, .int x_stepCount])), (x_tablets_a, .inl (cT, 4, .inr (.inr (.inr (.inr x_refs))))), (so, .inr (0, [.ref s_heldRows_a, .ref s_heldColumns_a, .ref s_heldSixties_a, .ref s_certain_a, .int s_heldCount, .int s_rows, .int s_kind, .int s_n, .int s_first])), (s_heldRows_a, .inl (cI, 24, .inl s_heldRows)), (s_heldColumns_a, .inl (cI, 24, .inl s_heldColumns)), (s_heldSixties_a, .inl (cI, 24, .inl s_heldSixties)), (s_certain_a, .inl (cI, 24, .inl s_certain)), (to, .inr (1, [.ref t_cells_a, .ref t_sixties_a, .int t_rows])), (t_cells_a, .inl (cI, 24, .inl t_cells)), (t_sixties_a, .inl (cI, 24, .inl t_sixties))] H → va_S (fun q => q ∈ ([xo, x_tablets_a, so, s_heldRows_a, s_heldColumns_a, s_heldSixties_a, s_certain_a, to, t_cells_a, t_sixties_a] : List Nat)) s.heap H locs → decode cX6_fill pc = .ok (.ireturn, 1) → W p l e rmX6_fill_i s m args below meth c H locs 0 0 Q (F0 m pc ls [.int v])) : mX6_fill_i s_heldRows s_heldColumns s_heldSixties s_certain t_cells t_sixties t_rows p1 = some res → ∀ (H : Heap) (locs : List Loc), va_P D vwCl [(xo, .inr (3, [.ref wo, .ref x_tablets_a, .ref so, .ref x_steps_a, .int x_stepCount])), (x_tablets_a, .inl (cT, 4, .inr (.inr (.inr (.inr x_refs))))), (so, .inr (0, [.ref s_heldRows_a, .ref s_heldColumns_a, .ref s_heldSixties_a, .ref s_certain_a, .int s_heldCount, .int s_rows, .int s_kind, .int s_n, .int s_first])), (s_heldRows_a, .inl (cI, 24, .inl s_heldRows)), (s_heldColumns_a, .inl (cI, 24, .inl s_heldColumns)), (s_heldSixties_a, .inl (cI, 24, .inl s_heldSixties)), (s_certain_a, .inl (cI, 24, .inl s_certain)), (to, .inr (1, [.ref t_cells_a, .ref t_sixties_a, .int t_rows])), (t_cells_a, .inl (cI, 24, .inl t_cells)), (t_sixties_a, .inl (cI, 24, .inl t_sixties))] H → va_S (fun q => q ∈ ([xo, x_tablets_a, so, s_heldRows_a, s_heldColumns_a, s_heldSixties_a, s_certain_a, to, t_cells_a, t_sixties_a] : List Nat)) s.heap H locs → ∀ (ls : Array Slot), lv_has ls 7 [(0, .ref xo), (1, .int p1)] → W p l e rmX6_fill_i s m args below meth c H locs 0 0 Q (F0 m 0 ls []) := by
  intro h H locs hP hS ls hl
  have C0 := C
  obtain ⟨hx, hb, hml, hown, hts, hr, hlk, hnm⟩ := C0
  rw [mX6_fill_i] at h
  refine lv_aload_n hx hb dX6_fill_0 rfl (lv_at hl 0 rfl) ?_
  refine lv_iload_n hx hb dX6_fill_1 rfl (lv_at hl 1 rfl) ?_
  refine kV C (ctX6_clayOf_i l hti0 htr0) gX6_fill_X6_clayOf rfl kdvX6_clayOf ⟨rfl, rfl⟩ ⟨by decide, by decide⟩ kW_blind (va_recv hK hP (ci := 3) (q0 := 0) rfl rfl) (kW_use hK (hP.sub (ws' := [(xo, .inr (3, [.ref wo, .ref x_tablets_a, .ref so, .ref x_steps_a, .int x_stepCount])), (x_tablets_a, .inl (cT, 4, .inr (.inr (.inr (.inr x_refs)))))]) [0, 1] rfl) kL_no) rfl hl [] rfl (Nat.le_of_ble_eq_true rfl) dX6_fill_2 ⟨by decide, by decide⟩ ?_
  refine lv_astore_n (lv' := [(2, .ref to), (0, .ref xo), (1, .int p1)]) hx hb dX6_fill_5 rfl hl (by decide) rfl (fun ls hl => ?_)
  refine lv_aload_n hx hb dX6_fill_6 rfl (lv_at hl 0 rfl) ?_
  refine lv_ifnonnull (tgt := 12) hx hb dX6_fill_7 (by decide) ?_
  refine lv_aload_n hx hb dX6_fill_12 rfl (lv_at hl 1 rfl) ?_
  refine va_get (D := D) (ci := 3) (v := .ref so) (C := RX6) (T := TX6) (N := 5) hx hb hts wi_X6_fill_i_X6 hown hK hP 0 rfl rfl 2 (by decide) (hts _ wm_X6_fill_i_0) (fun _ h9 => h9) rfl dX6_fill_13 ?_
  refine lv_aload_n hx hb dX6_fill_16 rfl (lv_at hl 0 rfl) ?_
  obtain ⟨u1, hu1, h⟩ := md_b h
  refine kVx C (ctX0_gatherSure l (nd_sub hnd [2, 3, 4, 5, 6, 7, 8, 9] (by decide) rfl) hu1) gX6_fill_X0_gatherSure rfl kdvX0_gatherSure ⟨rfl, rfl⟩ ⟨by decide, by decide⟩ kW_blind (va_recv hK hP (ci := 0) (q0 := 2) rfl rfl) (kW_use hK (hP.sub (ws' := [(so, .inr (0, [.ref s_heldRows_a, .ref s_heldColumns_a, .ref s_heldSixties_a, .ref s_certain_a, .int s_heldCount, .int s_rows, .int s_kind, .int s_n, .int s_first])), (s_heldRows_a, .inl (cI, 24, .inl s_heldRows)), (s_heldColumns_a, .inl (cI, 24, .inl s_heldColumns)), (s_heldSixties_a, .inl (cI, 24, .inl s_heldSixties)), (s_certain_a, .inl (cI, 24, .inl s_certain)), (to, .inr (1, [.ref t_cells_a, .ref t_sixties_a, .int t_rows])), (t_cells_a, .inl (cI, 24, .inl t_cells)), (t_sixties_a, .inl (cI, 24, .inl t_sixties))]) [2, 3, 4, 5, 6, 7, 8, 9] rfl) (kL_at hLz hS (mem_sub [2, 3, 4, 5, 6, 7, 8, 9] rfl))) rfl hl [] rfl (Nat.le_of_ble_eq_true rfl) dX6_fill_17 ⟨by decide, by decide⟩ hS (mem_sub [2, 3, 4, 5, 6, 7, 8, 9] rfl) (fun H1 locs hP1 hk1 hS => ?_)
  replace hP : va_P D vwCl [(xo, .inr (3, [.ref wo, .ref x_tablets_a, .ref so, .ref x_steps_a, .int x_stepCount])), (x_tablets_a, .inl (cT, 4, .inr (.inr (.inr (.inr x_refs))))), (so, .inr (0, [.ref s_heldRows_a, .ref s_heldColumns_a, .ref s_heldSixties_a, .ref s_certain_a, .int u1.2.2.2.2.1, .int u1.2.2.2.2.2.1, .int u1.2.2.2.2.2.2.1, .int u1.2.2.2.2.2.2.2.1, .int u1.2.2.2.2.2.2.2.2])), (s_heldRows_a, .inl (cI, 24, .inl u1.1)), (s_heldColumns_a, .inl (cI, 24, .inl u1.2.1)), (s_heldSixties_a, .inl (cI, 24, .inl u1.2.2.1)), (s_certain_a, .inl (cI, 24, .inl u1.2.2.2.1)), (to, .inr (1, [.ref t_cells_a, .ref t_sixties_a, .int t_rows])), (t_cells_a, .inl (cI, 24, .inl t_cells)), (t_sixties_a, .inl (cI, 24, .inl t_sixties))] H1 := kjoin hnd rfl hP hP1 hk1 [2, 3, 4, 5, 6, 7, 8, 9] rfl [(false, 0), (false, 1), (true, 0), (true, 1), (true, 2), (true, 3), (true, 4), (true, 5), (true, 6), (true, 7)] rfl rfl
  clear hP1 hk1
  generalize H1 = H at hP hS ⊢
  refine lv_iconst (v := 0) hx hb dX6_fill_20 (by decide) ?_
  refine lv_istore_n (lv' := [(3, .int (0 : Int32)), (2, .ref to), (0, .ref xo), (1, .int p1)]) hx hb dX6_fill_21 rfl hl (by decide) rfl (fun ls hl => ?_)
  refine lv_iconst (v := 0) hx hb dX6_fill_22 (by decide) ?_
  refine lv_istore (lv' := [(4, .int (0 : Int32)), (3, .int (0 : Int32)), (2, .ref to), (0, .ref xo), (1, .int p1)]) hx hb dX6_fill_23 hl (by decide) rfl (fun ls hl => ?_)
  refine lX6_fill_i_25 (xo := xo) (wo := wo) (x_tablets_a := x_tablets_a) (so := so) (x_steps_a := x_steps_a) (s_heldRows_a := s_heldRows_a) (s_heldColumns_a := s_heldColumns_a) (s_heldSixties_a := s_heldSixties_a) (s_certain_a := s_certain_a) (to := to) (t_cells_a := t_cells_a) (t_sixties_a := t_sixties_a) C hK hLz hnd x_stepCount u1.1 u1.2.1 u1.2.2.1 u1.2.2.2.1 u1.2.2.2.2.1 u1.2.2.2.2.2.1 u1.2.2.2.2.2.2.1 u1.2.2.2.2.2.2.2.1 u1.2.2.2.2.2.2.2.2 t_rows res hQ _ (fun y3_97 t_cells_97 t_sixties_97 h H locs hP hS ls hl => ?_) kN (0 : Int32) (0 : Int32) t_cells t_sixties h _ _ hP hS ls (lv_sub hl [3, 2, 1, 0] rfl)
  refine lv_iload_n hx hb dX6_fill_97 rfl (lv_at hl 0 rfl) ?_
  exact hQ y3_97 u1.1 u1.2.1 u1.2.2.1 u1.2.2.2.1 u1.2.2.2.2.1 u1.2.2.2.2.2.1 u1.2.2.2.2.2.2.1 u1.2.2.2.2.2.2.2.1 u1.2.2.2.2.2.2.2.2 t_cells_97 t_sixties_97 H locs 98 ls h hP hS dX6_fill_98
set_option maxHeartbeats 4000000 in
theorem ctX6_fill_i (l : Launch) {D : va_G} {cI cT : ClassId} {xo wo x_tablets_a so x_steps_a s_heldRows_a s_heldColumns_a s_heldSixties_a s_certain_a to t_cells_a t_sixties_a : Nat} {x_refs : Nat → Option Nat} {aL : Nat × Nat} {x_stepCount : Int32} {s_heldRows : Nat → Int32} {s_heldColumns : Nat → Int32} {s_heldSixties : Nat → Int32} {s_certain : Nat → Int32} {s_heldCount : Int32} {s_rows : Int32} {s_kind : Int32} {s_n : Int32} {s_first : Int32} {t_cells : Nat → Int32} {t_sixties : Nat → Int32} {t_rows : Int32} {p1 : Int32} {res : (Int32 × (Nat → Int32) × (Nat → Int32) × (Nat → Int32) × (Nat → Int32) × Int32 × Int32 × Int32 × Int32 × Int32 × (Nat → Int32) × (Nat → Int32))} (hnd : ([xo, x_tablets_a, so, s_heldRows_a, s_heldColumns_a, s_heldSixties_a, s_certain_a, to, t_cells_a, t_sixties_a] : List Nat).Nodup) (hti0 : vp_in p1 4) (htr0 : x_refs (Int32.toNatClampNeg p1) = some to) (hm : mX6_fill_i s_heldRows s_heldColumns s_heldSixties s_certain t_cells t_sixties t_rows p1 = some res) : Met l yX6_fill wsX6_fill rmX6_fill_i (va_Pc [.ref xo, .int p1] (kW D cI cT [(xo, .inr (3, [.ref wo, .ref x_tablets_a, .ref so, .ref x_steps_a, .int x_stepCount])), (x_tablets_a, .inl (cT, 4, .inr (.inr (.inr (.inr x_refs))))), (so, .inr (0, [.ref s_heldRows_a, .ref s_heldColumns_a, .ref s_heldSixties_a, .ref s_certain_a, .int s_heldCount, .int s_rows, .int s_kind, .int s_n, .int s_first])), (s_heldRows_a, .inl (cI, 24, .inl s_heldRows)), (s_heldColumns_a, .inl (cI, 24, .inl s_heldColumns)), (s_heldSixties_a, .inl (cI, 24, .inl s_heldSixties)), (s_certain_a, .inl (cI, 24, .inl s_certain)), (to, .inr (1, [.ref t_cells_a, .ref t_sixties_a, .int t_rows])), (t_cells_a, .inl (cI, 24, .inl t_cells)), (t_sixties_a, .inl (cI, 24, .inl t_sixties))] (some aL) (fun q => q ∈ ([xo, x_tablets_a, so, s_heldRows_a, s_heldColumns_a, s_heldSixties_a, s_certain_a, to, t_cells_a, t_sixties_a] : List Nat)))) (kX (some (.int res.1)) D [(xo, .inr (3, [.ref wo, .ref x_tablets_a, .ref so, .ref x_steps_a, .int x_stepCount])), (x_tablets_a, .inl (cT, 4, .inr (.inr (.inr (.inr x_refs))))), (so, .inr (0, [.ref s_heldRows_a, .ref s_heldColumns_a, .ref s_heldSixties_a, .ref s_certain_a, .int res.2.2.2.2.2.1, .int res.2.2.2.2.2.2.1, .int res.2.2.2.2.2.2.2.1, .int res.2.2.2.2.2.2.2.2.1, .int res.2.2.2.2.2.2.2.2.2.1])), (s_heldRows_a, .inl (cI, 24, .inl res.2.1)), (s_heldColumns_a, .inl (cI, 24, .inl res.2.2.1)), (s_heldSixties_a, .inl (cI, 24, .inl res.2.2.2.1)), (s_certain_a, .inl (cI, 24, .inl res.2.2.2.2.1)), (to, .inr (1, [.ref t_cells_a, .ref t_sixties_a, .int t_rows])), (t_cells_a, .inl (cI, 24, .inl res.2.2.2.2.2.2.2.2.2.2.1)), (t_sixties_a, .inl (cI, 24, .inl res.2.2.2.2.2.2.2.2.2.2.2))] (fun q => q ∈ ([xo, x_tablets_a, so, s_heldRows_a, s_heldColumns_a, s_heldSixties_a, s_certain_a, to, t_cells_a, t_sixties_a] : List Nat))) 0 0 (fun q => q ∈ ([xo, x_tablets_a, so, s_heldRows_a, s_heldColumns_a, s_heldSixties_a, s_certain_a, to, t_cells_a, t_sixties_a] : List Nat)) :=
  km (by decide) rfl (Nat.le_of_ble_eq_true rfl) (fun p e s m below meth c ls C hB hl => bX6_fill_i C p1 hB.1 (hB.2.2 aL rfl) hnd hti0 htr0 x_stepCount s_heldRows s_heldColumns s_heldSixties s_certain s_heldCount s_rows s_kind s_n s_first t_cells t_sixties t_rows res (fun v s_heldRows1 s_heldColumns1 s_heldSixties1 s_certain1 s_heldCount1 s_rows1 s_kind1 s_n1 s_first1 t_cells1 t_sixties1 H locs pc ls h hP hS hd => by obtain rfl := Option.some.inj h; exact kx_i C hP hS hd) hm s.heap [] hB.2.1 va_S.rf ls hl)
abbrev rmX6_fill_o : Room := { frames := 1, cells := 0, slots := 0, locals := 21 }
def mX6_fill_o (p1 : Int32) : Option Int32 := (some (-1 : Int32))
set_option maxHeartbeats 4000000 in
set_option maxRecDepth 100000 in
theorem bX6_fill_o {p : Program} {l : Launch} {e : Env} {s : State} {m : MethodId} {args : Array Value} {below : List Frame} {meth : Method} {c : Code} {Q : State → Prop} (C : kc p s m args meth c cX6_fill 7 RX6 yX6_fill.name wsX6_fill (some .int)) {D : va_G} {cI cT : ClassId} {xo wo x_tablets_a so x_steps_a : Nat} {x_refs : Nat → Option Nat} (p1 : Int32) (hK : va_K D vwCl (kTy cI cT) s) (hto0 : ¬ vp_in p1 4) (x_stepCount : Int32) (hP : va_P D vwCl [(xo, .inr (3, [.ref wo, .ref x_tablets_a, .ref so, .ref x_steps_a, .int x_stepCount])), (x_tablets_a, .inl (cT, 4, .inr (.inr (.inr (.inr x_refs)))))] s.heap) (res : Int32) (hQ : ∀ (v : Int32) (pc : Nat) (ls : Array Slot), some v = some res → decode cX6_fill pc = .ok (.ireturn, 1) → W p l e rmX6_fill_o s m args below meth c s.heap [] 0 0 Q (F0 m pc ls [.int v])) : mX6_fill_o p1 = some res → ∀ (ls : Array Slot), lv_has ls 7 [(0, .ref xo), (1, .int p1)] → W p l e rmX6_fill_o s m args below meth c s.heap [] 0 0 Q (F0 m 0 ls []) := by
  intro h ls hl
  have C0 := C
  obtain ⟨hx, hb, hml, hown, hts, hr, hlk, hnm⟩ := C0
  rw [mX6_fill_o] at h
  refine lv_aload_n hx hb dX6_fill_0 rfl (lv_at hl 0 rfl) ?_
  refine lv_iload_n hx hb dX6_fill_1 rfl (lv_at hl 1 rfl) ?_
  refine kV C (ctX6_clayOf_o l hto0) gX6_fill_X6_clayOf rfl kdvX6_clayOf ⟨rfl, rfl⟩ ⟨by decide, by decide⟩ kW_blind (va_recv hK hP (ci := 3) (q0 := 0) rfl rfl) (kW_use hK (hP.sub (ws' := [(xo, .inr (3, [.ref wo, .ref x_tablets_a, .ref so, .ref x_steps_a, .int x_stepCount])), (x_tablets_a, .inl (cT, 4, .inr (.inr (.inr (.inr x_refs)))))]) [0, 1] rfl) kL_no) rfl hl [] rfl (Nat.le_of_ble_eq_true rfl) dX6_fill_2 ⟨by decide, by decide⟩ ?_
  refine lv_astore_nN (lv' := [(2, .null), (0, .ref xo), (1, .int p1)]) hx hb dX6_fill_5 rfl hl (by decide) rfl (fun ls hl => ?_)
  refine lv_aload_nN hx hb dX6_fill_6 rfl (lv_at hl 0 rfl) ?_
  refine lv_ifnonnullN hx hb dX6_fill_7 ?_
  refine lv_iconst (v := -1) hx hb dX6_fill_10 (by decide) ?_
  exact hQ (-1 : Int32) 11 ls h dX6_fill_11
set_option maxHeartbeats 4000000 in
theorem ctX6_fill_o (l : Launch) {D : va_G} {cI cT : ClassId} {xo wo x_tablets_a so x_steps_a : Nat} {x_refs : Nat → Option Nat} {x_stepCount : Int32} {p1 : Int32} {res : Int32} (hto0 : ¬ vp_in p1 4) (hm : mX6_fill_o p1 = some res) : Met l yX6_fill wsX6_fill rmX6_fill_o (va_Pc [.ref xo, .int p1] (kW D cI cT [(xo, .inr (3, [.ref wo, .ref x_tablets_a, .ref so, .ref x_steps_a, .int x_stepCount])), (x_tablets_a, .inl (cT, 4, .inr (.inr (.inr (.inr x_refs)))))] none (fun _ => False))) (kR (.int res)) 0 0 (fun _ => False) :=
  km (by decide) rfl (Nat.le_of_ble_eq_true rfl) (fun p e s m below meth c ls C hB hl => bX6_fill_o C p1 hB.1 hto0 x_stepCount hB.2.1 res (fun v pc ls h hd => kr_i C h hd) hm ls hl)
theorem wm_X6_odd_i_0 : Cond.fieldLink RX6 19 "SixtyTablet" "search" "LSixtyTablet$Search;" ∈ wsX6_odd := by decide +kernel
theorem wi_X6_odd_i_X6 : ∀ w ∈ wsX60, w ∈ wsX6_odd := by decide +kernel
theorem kdvX6_odd : yX6_odd.cls = RX6 ∧ yX6_odd.cls ≠ "java/lang/invoke/MethodHandle" ∧ yX6_odd.cls ≠ "java/lang/invoke/VarHandle" ∧ (parseMethodDescriptor yX6_odd.desc).map (fun d => d.parameters.length) = some 1 := by decide +kernel
abbrev rmX6_odd_i : Room := { frames := 4, cells := 0, slots := 0, locals := 89 }
def mlX6_odd_i_26 (s_heldRows : Nat → Int32) (s_heldColumns : Nat → Int32) (s_heldSixties : Nat → Int32) (s_heldCount : Int32) (s_rows : Int32) (kE : Int32 → Int32 → Int32 → Int32 → Option (Int32 × (Nat → Int32) × (Nat → Int32) × (Nat → Int32) × Int32 × Int32 × Int32 × Int32 × Int32)) : Nat → Int32 → Int32 → Int32 → Int32 → Int32 → Option (Int32 × (Nat → Int32) × (Nat → Int32) × (Nat → Int32) × Int32 × Int32 × Int32 × Int32 × Int32)
  | 0, _, _, _, _, _ => none
  | n + 1, x3, x4, s_kind, s_n, s_first => (if (4000 : Int32) ≤ x4 then (kE x3 s_kind s_n s_first) else (Option.bind (mX0_nextPlace s_rows s_kind s_n s_first) (fun u3 => (if u3.1 = 0 then (kE x3 u3.2.1 u3.2.2.1 u3.2.2.2) else (Option.bind (mX0_strayRow s_heldRows s_heldColumns s_heldSixties s_heldCount u3.2.1 u3.2.2.1 u3.2.2.2) (fun u5 => (if u5 = (-1 : Int32) then (some ((-6 : Int32), s_heldRows, s_heldColumns, s_heldSixties, s_heldCount, s_rows, u3.2.1, u3.2.2.1, u3.2.2.2)) else (md_jn (fun (x3_78 : Int32) => (md_let (x4 + (1 : Int32)) (fun (x4_7 : Int32) => (mlX6_odd_i_26 s_heldRows s_heldColumns s_heldSixties s_heldCount s_rows kE n x3_78 x4_7 u3.2.1 u3.2.2.1 u3.2.2.2)))) (fun kJ78 => (if x3 = (-6 : Int32) then (if u5 = (-2 : Int32) then (kJ78 x3) else (kJ78 u5)) else (kJ78 x3)))))))))))
set_option maxHeartbeats 4000000 in
set_option maxRecDepth 100000 in
theorem lX6_odd_i_26 {p : Program} {l : Launch} {e : Env} {s : State} {m : MethodId} {args : Array Value} {below : List Frame} {meth : Method} {c : Code} {Q : State → Prop} (C : kc p s m args meth c cX6_odd 6 RX6 yX6_odd.name wsX6_odd (some .int)) {D : va_G} {cI cT : ClassId} {xo wo x_tablets_a so x_steps_a s_heldRows_a s_heldColumns_a s_heldSixties_a s_certain_a to t_cells_a t_sixties_a : Nat} {x_refs : Nat → Option Nat} {aL : Nat × Nat} (hK : va_K D vwCl (kTy cI cT) s) (hLz : kLz aL (fun q => q ∈ ([xo, x_tablets_a, so, s_heldRows_a, s_heldColumns_a, s_heldSixties_a, s_certain_a, to, t_cells_a, t_sixties_a] : List Nat)) s s.heap) (hnd : ([xo, x_tablets_a, so, s_heldRows_a, s_heldColumns_a, s_heldSixties_a, s_certain_a, to, t_cells_a, t_sixties_a] : List Nat).Nodup) (x_stepCount : Int32) (s_heldRows : Nat → Int32) (s_heldColumns : Nat → Int32) (s_heldSixties : Nat → Int32) (s_certain : Nat → Int32) (s_heldCount : Int32) (s_rows : Int32) (t_cells : Nat → Int32) (t_sixties : Nat → Int32) (t_rows : Int32) (res : (Int32 × (Nat → Int32) × (Nat → Int32) × (Nat → Int32) × Int32 × Int32 × Int32 × Int32 × Int32)) (hQ : ∀ (v : Int32) (s_heldRows : Nat → Int32) (s_heldColumns : Nat → Int32) (s_heldSixties : Nat → Int32) (s_heldCount : Int32) (s_rows : Int32) (s_kind : Int32) (s_n : Int32) (s_first : Int32) (H : Heap) (locs : List Loc) (pc : Nat) (ls : Array Slot), some (v, s_heldRows, s_heldColumns, s_heldSixties, s_heldCount, s_rows, s_kind, s_n, s_first) = some res → va_P D vwCl [(xo, .inr (3, [.ref wo, .ref x_tablets_a, .ref so, .ref x_steps_a, .int x_stepCount])), (x_tablets_a, .inl (cT, 4, .inr (.inr (.inr (.inr x_refs))))), (so, .inr (0, [.ref s_heldRows_a, .ref s_heldColumns_a, .ref s_heldSixties_a, .ref s_certain_a, .int s_heldCount, .int s_rows, .int s_kind, .int s_n, .int s_first])), (s_heldRows_a, .inl (cI, 24, .inl s_heldRows)), (s_heldColumns_a, .inl (cI, 24, .inl s_heldColumns)), (s_heldSixties_a, .inl (cI, 24, .inl s_heldSixties)), (s_certain_a, .inl (cI, 24, .inl s_certain)), (to, .inr (1, [.ref t_cells_a, .ref t_sixties_a, .int t_rows])), (t_cells_a, .inl (cI, 24, .inl t_cells)), (t_sixties_a, .inl (cI, 24, .inl t_sixties))] H → va_S (fun q => q ∈ ([xo, x_tablets_a, so, s_heldRows_a, s_heldColumns_a, s_heldSixties_a, s_certain_a, to, t_cells_a, t_sixties_a] : List Nat)) s.heap H locs → decode cX6_odd pc = .ok (.ireturn, 1) → W p l e rmX6_odd_i s m args below meth c H locs 0 0 Q (F0 m pc ls [.int v])) (kE : Int32 → Int32 → Int32 → Int32 → Option (Int32 × (Nat → Int32) × (Nat → Int32) × (Nat → Int32) × Int32 × Int32 × Int32 × Int32 × Int32)) (hE : ∀ (y3 : Int32) (s_kind : Int32) (s_n : Int32) (s_first : Int32), kE y3 s_kind s_n s_first = some res → ∀ (H : Heap) (locs : List Loc), va_P D vwCl [(xo, .inr (3, [.ref wo, .ref x_tablets_a, .ref so, .ref x_steps_a, .int x_stepCount])), (x_tablets_a, .inl (cT, 4, .inr (.inr (.inr (.inr x_refs))))), (so, .inr (0, [.ref s_heldRows_a, .ref s_heldColumns_a, .ref s_heldSixties_a, .ref s_certain_a, .int s_heldCount, .int s_rows, .int s_kind, .int s_n, .int s_first])), (s_heldRows_a, .inl (cI, 24, .inl s_heldRows)), (s_heldColumns_a, .inl (cI, 24, .inl s_heldColumns)), (s_heldSixties_a, .inl (cI, 24, .inl s_heldSixties)), (s_certain_a, .inl (cI, 24, .inl s_certain)), (to, .inr (1, [.ref t_cells_a, .ref t_sixties_a, .int t_rows])), (t_cells_a, .inl (cI, 24, .inl t_cells)), (t_sixties_a, .inl (cI, 24, .inl t_sixties))] H → va_S (fun q => q ∈ ([xo, x_tablets_a, so, s_heldRows_a, s_heldColumns_a, s_heldSixties_a, s_certain_a, to, t_cells_a, t_sixties_a] : List Nat)) s.heap H locs → ∀ (ls : Array Slot), lv_has ls 6 [(3, .int y3)] → W p l e rmX6_odd_i s m args below meth c H locs 0 0 Q (F0 m 84 ls [])) : ∀ (n : Nat), ∀ (x3 : Int32) (x4 : Int32) (s_kind : Int32) (s_n : Int32) (s_first : Int32), mlX6_odd_i_26 s_heldRows s_heldColumns s_heldSixties s_heldCount s_rows kE n x3 x4 s_kind s_n s_first = some res → ∀ (H : Heap) (locs : List Loc), va_P D vwCl [(xo, .inr (3, [.ref wo, .ref x_tablets_a, .ref so, .ref x_steps_a, .int x_stepCount])), (x_tablets_a, .inl (cT, 4, .inr (.inr (.inr (.inr x_refs))))), (so, .inr (0, [.ref s_heldRows_a, .ref s_heldColumns_a, .ref s_heldSixties_a, .ref s_certain_a, .int s_heldCount, .int s_rows, .int s_kind, .int s_n, .int s_first])), (s_heldRows_a, .inl (cI, 24, .inl s_heldRows)), (s_heldColumns_a, .inl (cI, 24, .inl s_heldColumns)), (s_heldSixties_a, .inl (cI, 24, .inl s_heldSixties)), (s_certain_a, .inl (cI, 24, .inl s_certain)), (to, .inr (1, [.ref t_cells_a, .ref t_sixties_a, .int t_rows])), (t_cells_a, .inl (cI, 24, .inl t_cells)), (t_sixties_a, .inl (cI, 24, .inl t_sixties))] H → va_S (fun q => q ∈ ([xo, x_tablets_a, so, s_heldRows_a, s_heldColumns_a, s_heldSixties_a, s_certain_a, to, t_cells_a, t_sixties_a] : List Nat)) s.heap H locs → ∀ (ls : Array Slot), lv_has ls 6 [(0, .ref xo), (3, .int x3), (4, .int x4)] → W p l e rmX6_odd_i s m args below meth c H locs 0 0 Q (F0 m 26 ls []) := by
  have C0 := C
  obtain ⟨hx, hb, hml, hown, hts, hr, hlk, hnm⟩ := C0
  intro n
  induction n with
  | zero => intro _ _ _ _ _ h; exact md_x h
  | succ n ih =>
    intro x3 x4 s_kind s_n s_first h H locs hP hS ls hl
    rw [mlX6_odd_i_26] at h
    refine lv_iload hx hb dX6_odd_26 (lv_at hl 2 rfl) ?_
    refine lv_sipush (v := 4000) hx hb dX6_odd_28 (by decide) ?_
    refine lv_icmp_ge (tgt := 84) hx hb dX6_odd_31 (by decide) (fun c2 => ?_) (fun c2 => ?_)
    · replace h := md_t c2 h
      exact hE x3 s_kind s_n s_first h _ _ hP hS ls (lv_sub hl [1] rfl)
    replace h := md_f c2 h
    refine lv_aload_n hx hb dX6_odd_34 rfl (lv_at hl 0 rfl) ?_
    refine va_get (D := D) (ci := 3) (v := .ref so) (C := RX6) (T := TX6) (N := 5) hx hb hts wi_X6_odd_i_X6 hown hK hP 0 rfl rfl 2 (by decide) (hts _ wm_X6_odd_i_0) (fun _ h9 => h9) rfl dX6_odd_35 ?_
    obtain ⟨u3, hu3, h⟩ := md_b h
    refine kVx C (ctX0_nextPlace l (nd_sub hnd [2, 3, 4, 5, 6] (by decide) rfl) hu3) gX6_odd_X0_nextPlace rfl kdvX0_nextPlace ⟨rfl, rfl⟩ ⟨by decide, by decide⟩ kW_blind (va_recv hK hP (ci := 0) (q0 := 2) rfl rfl) (kW_use hK (hP.sub (ws' := [(so, .inr (0, [.ref s_heldRows_a, .ref s_heldColumns_a, .ref s_heldSixties_a, .ref s_certain_a, .int s_heldCount, .int s_rows, .int s_kind, .int s_n, .int s_first])), (s_heldRows_a, .inl (cI, 24, .inl s_heldRows)), (s_heldColumns_a, .inl (cI, 24, .inl s_heldColumns)), (s_heldSixties_a, .inl (cI, 24, .inl s_heldSixties)), (s_certain_a, .inl (cI, 24, .inl s_certain))]) [2, 3, 4, 5, 6] rfl) (kL_at hLz hS (mem_sub [2, 3, 4, 5, 6] rfl))) rfl hl [] rfl (Nat.le_of_ble_eq_true rfl) dX6_odd_38 ⟨by decide, by decide⟩ hS (mem_sub [2, 3, 4, 5, 6] rfl) (fun H1 locs hP1 hk1 hS => ?_)
    replace hP : va_P D vwCl [(xo, .inr (3, [.ref wo, .ref x_tablets_a, .ref so, .ref x_steps_a, .int x_stepCount])), (x_tablets_a, .inl (cT, 4, .inr (.inr (.inr (.inr x_refs))))), (so, .inr (0, [.ref s_heldRows_a, .ref s_heldColumns_a, .ref s_heldSixties_a, .ref s_certain_a, .int s_heldCount, .int s_rows, .int u3.2.1, .int u3.2.2.1, .int u3.2.2.2])), (s_heldRows_a, .inl (cI, 24, .inl s_heldRows)), (s_heldColumns_a, .inl (cI, 24, .inl s_heldColumns)), (s_heldSixties_a, .inl (cI, 24, .inl s_heldSixties)), (s_certain_a, .inl (cI, 24, .inl s_certain)), (to, .inr (1, [.ref t_cells_a, .ref t_sixties_a, .int t_rows])), (t_cells_a, .inl (cI, 24, .inl t_cells)), (t_sixties_a, .inl (cI, 24, .inl t_sixties))] H1 := kjoin hnd rfl hP hP1 hk1 [2, 3, 4, 5, 6] rfl [(false, 0), (false, 1), (true, 0), (true, 1), (true, 2), (true, 3), (true, 4), (false, 7), (false, 8), (false, 9)] rfl rfl
    clear hP1 hk1
    generalize H1 = H at hP hS ⊢
    refine lv_if_eq (tgt := 84) hx hb dX6_odd_41 (by decide) (fun c4 => ?_) (fun c4 => ?_)
    · replace h := md_t c4 h
      exact hE x3 u3.2.1 u3.2.2.1 u3.2.2.2 h _ _ hP hS ls (lv_sub hl [1] rfl)
    replace h := md_f c4 h
    refine lv_aload_n hx hb dX6_odd_44 rfl (lv_at hl 0 rfl) ?_
    refine va_get (D := D) (ci := 3) (v := .ref so) (C := RX6) (T := TX6) (N := 5) hx hb hts wi_X6_odd_i_X6 hown hK hP 0 rfl rfl 2 (by decide) (hts _ wm_X6_odd_i_0) (fun _ h9 => h9) rfl dX6_odd_45 ?_
    obtain ⟨u5, hu5, h⟩ := md_b h
    refine kV C (ctX0_strayRow l  hu5) gX6_odd_X0_strayRow rfl kdvX0_strayRow ⟨rfl, rfl⟩ ⟨by decide, by decide⟩ kW_blind (va_recv hK hP (ci := 0) (q0 := 2) rfl rfl) (kW_use hK (hP.sub (ws' := [(so, .inr (0, [.ref s_heldRows_a, .ref s_heldColumns_a, .ref s_heldSixties_a, .ref s_certain_a, .int s_heldCount, .int s_rows, .int u3.2.1, .int u3.2.2.1, .int u3.2.2.2])), (s_heldRows_a, .inl (cI, 24, .inl s_heldRows)), (s_heldColumns_a, .inl (cI, 24, .inl s_heldColumns)), (s_heldSixties_a, .inl (cI, 24, .inl s_heldSixties)), (s_certain_a, .inl (cI, 24, .inl s_certain))]) [2, 3, 4, 5, 6] rfl) (kL_at hLz hS (fun _ q => q.elim))) rfl hl [] rfl (Nat.le_of_ble_eq_true rfl) dX6_odd_48 ⟨by decide, by decide⟩ ?_
    refine lv_istore (lv' := [(5, .int u5), (0, .ref xo), (3, .int x3), (4, .int x4)]) hx hb dX6_odd_51 hl (by decide) rfl (fun ls hl => ?_)
    refine lv_iload hx hb dX6_odd_53 (lv_at hl 0 rfl) ?_
    refine lv_iconst (v := -1) hx hb dX6_odd_55 (by decide) ?_
    refine lv_icmp_ne (tgt := 62) hx hb dX6_odd_56 (by decide) (fun c6 => ?_) (fun c6 => ?_)
    · replace h := md_f c6 h
      refine lv_iload_n hx hb dX6_odd_62 rfl (lv_at hl 2 rfl) ?_
      refine lv_bipush (v := -6) hx hb dX6_odd_63 (by decide) ?_
      obtain ⟨kJ78, ekJ78, h⟩ := md_jo h
      have KJ78 : ∀ (x3_78 : Int32), kJ78 x3_78 = some res → ∀ (H : Heap) (locs : List Loc), va_P D vwCl [(xo, .inr (3, [.ref wo, .ref x_tablets_a, .ref so, .ref x_steps_a, .int x_stepCount])), (x_tablets_a, .inl (cT, 4, .inr (.inr (.inr (.inr x_refs))))), (so, .inr (0, [.ref s_heldRows_a, .ref s_heldColumns_a, .ref s_heldSixties_a, .ref s_certain_a, .int s_heldCount, .int s_rows, .int u3.2.1, .int u3.2.2.1, .int u3.2.2.2])), (s_heldRows_a, .inl (cI, 24, .inl s_heldRows)), (s_heldColumns_a, .inl (cI, 24, .inl s_heldColumns)), (s_heldSixties_a, .inl (cI, 24, .inl s_heldSixties)), (s_certain_a, .inl (cI, 24, .inl s_certain)), (to, .inr (1, [.ref t_cells_a, .ref t_sixties_a, .int t_rows])), (t_cells_a, .inl (cI, 24, .inl t_cells)), (t_sixties_a, .inl (cI, 24, .inl t_sixties))] H → va_S (fun q => q ∈ ([xo, x_tablets_a, so, s_heldRows_a, s_heldColumns_a, s_heldSixties_a, s_certain_a, to, t_cells_a, t_sixties_a] : List Nat)) s.heap H locs → ∀ (ls : Array Slot), lv_has ls 6 [(0, .ref xo), (3, .int x3_78), (4, .int x4)] → W p l e rmX6_odd_i s m args below meth c H locs 0 0 Q (F0 m 78 ls []) := by
        intro x3_78 h H locs hP hS ls hl
        rw [ekJ78] at h
        obtain ⟨x4_7, ex4_7⟩ : ∃ y : Int32, y = (x4 + (1 : Int32)) := ⟨_, rfl⟩
        replace h := md_le ex4_7 h
        refine lv_iinc (v := x4_7) (lv' := [(4, .int x4_7), (0, .ref xo), (3, .int x3_78)]) hx hb dX6_odd_78 hl (k := 2) rfl (by rw [ex4_7]; rfl) (by decide) rfl (fun ls hl => ?_)
        refine lv_goto (tgt := 26) hx hb dX6_odd_81 (by decide) ?_
        exact ih x3_78 x4_7 u3.2.1 u3.2.2.1 u3.2.2.2 h _ _ hP hS ls (lv_sub hl [1, 2, 0] rfl)
      clear ekJ78
      refine lv_icmp_ne (tgt := 78) hx hb dX6_odd_65 (by decide) (fun c8 => ?_) (fun c8 => ?_)
      · replace h := md_f c8 h
        exact KJ78 x3 h _ _ hP hS ls (lv_sub hl [1, 2, 3] rfl)
      replace h := md_t c8 h
      refine lv_iload hx hb dX6_odd_68 (lv_at hl 0 rfl) ?_
      refine lv_bipush (v := -2) hx hb dX6_odd_70 (by decide) ?_
      refine lv_icmp_eq (tgt := 78) hx hb dX6_odd_72 (by decide) (fun c9 => ?_) (fun c9 => ?_)
      · replace h := md_t c9 h
        exact KJ78 x3 h _ _ hP hS ls (lv_sub hl [1, 2, 3] rfl)
      replace h := md_f c9 h
      refine lv_iload hx hb dX6_odd_75 (lv_at hl 0 rfl) ?_
      refine lv_istore_n (lv' := [(3, .int u5), (5, .int u5), (0, .ref xo), (4, .int x4)]) hx hb dX6_odd_77 rfl hl (by decide) rfl (fun ls hl => ?_)
      exact KJ78 u5 h _ _ hP hS ls (lv_sub hl [2, 0, 3] rfl)
    replace h := md_t c6 h
    refine lv_bipush (v := -6) hx hb dX6_odd_59 (by decide) ?_
    exact hQ (-6 : Int32) s_heldRows s_heldColumns s_heldSixties s_heldCount s_rows u3.2.1 u3.2.2.1 u3.2.2.2 H locs 61 ls h hP hS dX6_odd_61
def mX6_odd_i (s_heldRows : Nat → Int32) (s_heldColumns : Nat → Int32) (s_heldSixties : Nat → Int32) (t_cells : Nat → Int32) (t_sixties : Nat → Int32) (t_rows : Int32) (p1 : Int32) : Option (Int32 × (Nat → Int32) × (Nat → Int32) × (Nat → Int32) × Int32 × Int32 × Int32 × Int32 × Int32) := (Option.bind (mX0_begin s_heldRows s_heldColumns s_heldSixties t_cells t_sixties t_rows) (fun u1 => (mlX6_odd_i_26 u1.1 u1.2.1 u1.2.2.1 u1.2.2.2.1 u1.2.2.2.2.1 (fun (y3_84 : Int32) (s_kind_84 : Int32) (s_n_84 : Int32) (s_first_84 : Int32) => (some (y3_84, u1.1, u1.2.1, u1.2.2.1, u1.2.2.2.1, u1.2.2.2.2.1, s_kind_84, s_n_84, s_first_84))) kN (-6 : Int32) (0 : Int32) u1.2.2.2.2.2.1 u1.2.2.2.2.2.2.1 u1.2.2.2.2.2.2.2)))
set_option maxHeartbeats 4000000 in
set_option maxRecDepth 100000 in
theorem bX6_odd_i {p : Program} {l : Launch} {e : Env} {s : State} {m : MethodId} {args : Array Value} {below : List Frame} {meth : Method} {c : Code} {Q : State → Prop} (C : kc p s m args meth c cX6_odd 6 RX6 yX6_odd.name wsX6_odd (some .int)) {D : va_G} {cI cT : ClassId} {xo wo x_tablets_a so x_steps_a s_heldRows_a s_heldColumns_a s_heldSixties_a s_certain_a to t_cells_a t_sixties_a : Nat} {x_refs : Nat → Option Nat} {aL : Nat × Nat} (p1 : Int32) (hK : va_K D vwCl (kTy cI cT) s) (hLz : kLz aL (fun q => q ∈ ([xo, x_tablets_a, so, s_heldRows_a, s_heldColumns_a, s_heldSixties_a, s_certain_a, to, t_cells_a, t_sixties_a] : List Nat)) s s.heap) (hnd : ([xo, x_tablets_a, so, s_heldRows_a, s_heldColumns_a, s_heldSixties_a, s_certain_a, to, t_cells_a, t_sixties_a] : List Nat).Nodup) (hti0 : vp_in p1 4) (htr0 : x_refs (Int32.toNatClampNeg p1) = some to) (x_stepCount : Int32) (s_heldRows : Nat → Int32) (s_heldColumns : Nat → Int32) (s_heldSixties : Nat → Int32) (s_certain : Nat → Int32) (s_heldCount : Int32) (s_rows : Int32) (s_kind : Int32) (s_n : Int32) (s_first : Int32) (t_cells : Nat → Int32) (t_sixties : Nat → Int32) (t_rows : Int32) (res : (Int32 × (Nat → Int32) × (Nat → Int32) × (Nat → Int32) × Int32 × Int32 × Int32 × Int32 × Int32)) (hQ : ∀ (v : Int32) (s_heldRows : Nat → Int32) (s_heldColumns : Nat → Int32) (s_heldSixties : Nat → Int32) (s_heldCount : Int32) (s_rows : Int32) (s_kind : Int32) (s_n : Int32) (s_first : Int32) (H : Heap) (locs : List Loc) (pc : Nat) (ls : Array Slot), some (v, s_heldRows, s_heldColumns, s_heldSixties, s_heldCount, s_rows, s_kind, s_n, s_first) = some res → va_P D vwCl [(xo, .inr (3, [.ref wo, .ref x_tablets_a, .ref so, .ref x_steps_a, .int x_stepCount])), (x_tablets_a, .inl (cT, 4, .inr (.inr (.inr (.inr x_refs))))), (so, .inr (0, [.ref s_heldRows_a, .ref s_heldColumns_a, .ref s_heldSixties_a, .ref s_certain_a, .int s_heldCount, .int s_rows, .int s_kind, .int s_n, .int s_first])), (s_heldRows_a, .inl (cI, 24, .inl s_heldRows)), (s_heldColumns_a, .inl (cI, 24, .inl s_heldColumns)), (s_heldSixties_a, .inl (cI, 24, .inl s_heldSixties)), (s_certain_a, .inl (cI, 24, .inl s_certain)), (to, .inr (1, [.ref t_cells_a, .ref t_sixties_a, .int t_rows])), (t_cells_a, .inl (cI, 24, .inl t_cells)), (t_sixties_a, .inl (cI, 24, .inl t_sixties))] H → va_S (fun q => q ∈ ([xo, x_tablets_a, so, s_heldRows_a, s_heldColumns_a, s_heldSixties_a, s_certain_a, to, t_cells_a, t_sixties_a] : List Nat)) s.heap H locs → decode cX6_odd pc = .ok (.ireturn, 1) → W p l e rmX6_odd_i s m args below meth c H locs 0 0 Q (F0 m pc ls [.int v])) : mX6_odd_i s_heldRows s_heldColumns s_heldSixties t_cells t_sixties t_rows p1 = some res → ∀ (H : Heap) (locs : List Loc), va_P D vwCl [(xo, .inr (3, [.ref wo, .ref x_tablets_a, .ref so, .ref x_steps_a, .int x_stepCount])), (x_tablets_a, .inl (cT, 4, .inr (.inr (.inr (.inr x_refs))))), (so, .inr (0, [.ref s_heldRows_a, .ref s_heldColumns_a, .ref s_heldSixties_a, .ref s_certain_a, .int s_heldCount, .int s_rows, .int s_kind, .int s_n, .int s_first])), (s_heldRows_a, .inl (cI, 24, .inl s_heldRows)), (s_heldColumns_a, .inl (cI, 24, .inl s_heldColumns)), (s_heldSixties_a, .inl (cI, 24, .inl s_heldSixties)), (s_certain_a, .inl (cI, 24, .inl s_certain)), (to, .inr (1, [.ref t_cells_a, .ref t_sixties_a, .int t_rows])), (t_cells_a, .inl (cI, 24, .inl t_cells)), (t_sixties_a, .inl (cI, 24, .inl t_sixties))] H → va_S (fun q => q ∈ ([xo, x_tablets_a, so, s_heldRows_a, s_heldColumns_a, s_heldSixties_a, s_certain_a, to, t_cells_a, t_sixties_a] : List Nat)) s.heap H locs → ∀ (ls : Array Slot), lv_has ls 6 [(0, .ref xo), (1, .int p1)] → W p l e rmX6_odd_i s m args below meth c H locs 0 0 Q (F0 m 0 ls []) := by
  intro h H locs hP hS ls hl
  have C0 := C
  obtain ⟨hx, hb, hml, hown, hts, hr, hlk, hnm⟩ := C0
  rw [mX6_odd_i] at h
  refine lv_aload_n hx hb dX6_odd_0 rfl (lv_at hl 0 rfl) ?_
  refine lv_iload_n hx hb dX6_odd_1 rfl (lv_at hl 1 rfl) ?_
  refine kV C (ctX6_clayOf_i l hti0 htr0) gX6_odd_X6_clayOf rfl kdvX6_clayOf ⟨rfl, rfl⟩ ⟨by decide, by decide⟩ kW_blind (va_recv hK hP (ci := 3) (q0 := 0) rfl rfl) (kW_use hK (hP.sub (ws' := [(xo, .inr (3, [.ref wo, .ref x_tablets_a, .ref so, .ref x_steps_a, .int x_stepCount])), (x_tablets_a, .inl (cT, 4, .inr (.inr (.inr (.inr x_refs)))))]) [0, 1] rfl) kL_no) rfl hl [] rfl (Nat.le_of_ble_eq_true rfl) dX6_odd_2 ⟨by decide, by decide⟩ ?_
  refine lv_astore_n (lv' := [(2, .ref to), (0, .ref xo), (1, .int p1)]) hx hb dX6_odd_5 rfl hl (by decide) rfl (fun ls hl => ?_)
  refine lv_aload_n hx hb dX6_odd_6 rfl (lv_at hl 0 rfl) ?_
  refine lv_ifnonnull (tgt := 12) hx hb dX6_odd_7 (by decide) ?_
  refine lv_bipush (v := -6) hx hb dX6_odd_12 (by decide) ?_
  refine lv_istore_n (lv' := [(3, .int (-6 : Int32)), (2, .ref to), (0, .ref xo), (1, .int p1)]) hx hb dX6_odd_14 rfl hl (by decide) rfl (fun ls hl => ?_)
  refine lv_aload_n hx hb dX6_odd_15 rfl (lv_at hl 2 rfl) ?_
  refine va_get (D := D) (ci := 3) (v := .ref so) (C := RX6) (T := TX6) (N := 5) hx hb hts wi_X6_odd_i_X6 hown hK hP 0 rfl rfl 2 (by decide) (hts _ wm_X6_odd_i_0) (fun _ h9 => h9) rfl dX6_odd_16 ?_
  refine lv_aload_n hx hb dX6_odd_19 rfl (lv_at hl 1 rfl) ?_
  obtain ⟨u1, hu1, h⟩ := md_b h
  refine kVx C (ctX0_begin l (nd_sub hnd [2, 3, 4, 5, 6, 7, 8, 9] (by decide) rfl) hu1) gX6_odd_X0_begin rfl kdvX0_begin ⟨rfl, rfl⟩ ⟨by decide, by decide⟩ kW_blind (va_recv hK hP (ci := 0) (q0 := 2) rfl rfl) (kW_use hK (hP.sub (ws' := [(so, .inr (0, [.ref s_heldRows_a, .ref s_heldColumns_a, .ref s_heldSixties_a, .ref s_certain_a, .int s_heldCount, .int s_rows, .int s_kind, .int s_n, .int s_first])), (s_heldRows_a, .inl (cI, 24, .inl s_heldRows)), (s_heldColumns_a, .inl (cI, 24, .inl s_heldColumns)), (s_heldSixties_a, .inl (cI, 24, .inl s_heldSixties)), (s_certain_a, .inl (cI, 24, .inl s_certain)), (to, .inr (1, [.ref t_cells_a, .ref t_sixties_a, .int t_rows])), (t_cells_a, .inl (cI, 24, .inl t_cells)), (t_sixties_a, .inl (cI, 24, .inl t_sixties))]) [2, 3, 4, 5, 6, 7, 8, 9] rfl) kL_no) rfl hl [] rfl (Nat.le_of_ble_eq_true rfl) dX6_odd_20 ⟨by decide, by decide⟩ hS (mem_sub [2, 3, 4, 5, 6, 7, 8, 9] rfl) (fun H1 locs hP1 hk1 hS => ?_)
  replace hP : va_P D vwCl [(xo, .inr (3, [.ref wo, .ref x_tablets_a, .ref so, .ref x_steps_a, .int x_stepCount])), (x_tablets_a, .inl (cT, 4, .inr (.inr (.inr (.inr x_refs))))), (so, .inr (0, [.ref s_heldRows_a, .ref s_heldColumns_a, .ref s_heldSixties_a, .ref s_certain_a, .int u1.2.2.2.1, .int u1.2.2.2.2.1, .int u1.2.2.2.2.2.1, .int u1.2.2.2.2.2.2.1, .int u1.2.2.2.2.2.2.2])), (s_heldRows_a, .inl (cI, 24, .inl u1.1)), (s_heldColumns_a, .inl (cI, 24, .inl u1.2.1)), (s_heldSixties_a, .inl (cI, 24, .inl u1.2.2.1)), (s_certain_a, .inl (cI, 24, .inl s_certain)), (to, .inr (1, [.ref t_cells_a, .ref t_sixties_a, .int t_rows])), (t_cells_a, .inl (cI, 24, .inl t_cells)), (t_sixties_a, .inl (cI, 24, .inl t_sixties))] H1 := kjoin hnd rfl hP hP1 hk1 [2, 3, 4, 5, 6, 7, 8, 9] rfl [(false, 0), (false, 1), (true, 0), (true, 1), (true, 2), (true, 3), (true, 4), (true, 5), (true, 6), (true, 7)] rfl rfl
  clear hP1 hk1
  generalize H1 = H at hP hS ⊢
  refine lv_iconst (v := 0) hx hb dX6_odd_23 (by decide) ?_
  refine lv_istore (lv' := [(4, .int (0 : Int32)), (3, .int (-6 : Int32)), (2, .ref to), (0, .ref xo), (1, .int p1)]) hx hb dX6_odd_24 hl (by decide) rfl (fun ls hl => ?_)
  refine lX6_odd_i_26 (xo := xo) (wo := wo) (x_tablets_a := x_tablets_a) (so := so) (x_steps_a := x_steps_a) (s_heldRows_a := s_heldRows_a) (s_heldColumns_a := s_heldColumns_a) (s_heldSixties_a := s_heldSixties_a) (s_certain_a := s_certain_a) (to := to) (t_cells_a := t_cells_a) (t_sixties_a := t_sixties_a) C hK hLz hnd x_stepCount u1.1 u1.2.1 u1.2.2.1 s_certain u1.2.2.2.1 u1.2.2.2.2.1 t_cells t_sixties t_rows res hQ _ (fun y3_84 s_kind_84 s_n_84 s_first_84 h H locs hP hS ls hl => ?_) kN (-6 : Int32) (0 : Int32) u1.2.2.2.2.2.1 u1.2.2.2.2.2.2.1 u1.2.2.2.2.2.2.2 h _ _ hP hS ls (lv_sub hl [3, 1, 0] rfl)
  refine lv_iload_n hx hb dX6_odd_84 rfl (lv_at hl 0 rfl) ?_
  exact hQ y3_84 u1.1 u1.2.1 u1.2.2.1 u1.2.2.2.1 u1.2.2.2.2.1 s_kind_84 s_n_84 s_first_84 H locs 85 ls h hP hS dX6_odd_85
set_option maxHeartbeats 4000000 in
theorem ctX6_odd_i (l : Launch) {D : va_G} {cI cT : ClassId} {xo wo x_tablets_a so x_steps_a s_heldRows_a s_heldColumns_a s_heldSixties_a s_certain_a to t_cells_a t_sixties_a : Nat} {x_refs : Nat → Option Nat} {aL : Nat × Nat} {x_stepCount : Int32} {s_heldRows : Nat → Int32} {s_heldColumns : Nat → Int32} {s_heldSixties : Nat → Int32} {s_certain : Nat → Int32} {s_heldCount : Int32} {s_rows : Int32} {s_kind : Int32} {s_n : Int32} {s_first : Int32} {t_cells : Nat → Int32} {t_sixties : Nat → Int32} {t_rows : Int32} {p1 : Int32} {res : (Int32 × (Nat → Int32) × (Nat → Int32) × (Nat → Int32) × Int32 × Int32 × Int32 × Int32 × Int32)} (hnd : ([xo, x_tablets_a, so, s_heldRows_a, s_heldColumns_a, s_heldSixties_a, s_certain_a, to, t_cells_a, t_sixties_a] : List Nat).Nodup) (hti0 : vp_in p1 4) (htr0 : x_refs (Int32.toNatClampNeg p1) = some to) (hm : mX6_odd_i s_heldRows s_heldColumns s_heldSixties t_cells t_sixties t_rows p1 = some res) : Met l yX6_odd wsX6_odd rmX6_odd_i (va_Pc [.ref xo, .int p1] (kW D cI cT [(xo, .inr (3, [.ref wo, .ref x_tablets_a, .ref so, .ref x_steps_a, .int x_stepCount])), (x_tablets_a, .inl (cT, 4, .inr (.inr (.inr (.inr x_refs))))), (so, .inr (0, [.ref s_heldRows_a, .ref s_heldColumns_a, .ref s_heldSixties_a, .ref s_certain_a, .int s_heldCount, .int s_rows, .int s_kind, .int s_n, .int s_first])), (s_heldRows_a, .inl (cI, 24, .inl s_heldRows)), (s_heldColumns_a, .inl (cI, 24, .inl s_heldColumns)), (s_heldSixties_a, .inl (cI, 24, .inl s_heldSixties)), (s_certain_a, .inl (cI, 24, .inl s_certain)), (to, .inr (1, [.ref t_cells_a, .ref t_sixties_a, .int t_rows])), (t_cells_a, .inl (cI, 24, .inl t_cells)), (t_sixties_a, .inl (cI, 24, .inl t_sixties))] (some aL) (fun q => q ∈ ([xo, x_tablets_a, so, s_heldRows_a, s_heldColumns_a, s_heldSixties_a, s_certain_a, to, t_cells_a, t_sixties_a] : List Nat)))) (kX (some (.int res.1)) D [(xo, .inr (3, [.ref wo, .ref x_tablets_a, .ref so, .ref x_steps_a, .int x_stepCount])), (x_tablets_a, .inl (cT, 4, .inr (.inr (.inr (.inr x_refs))))), (so, .inr (0, [.ref s_heldRows_a, .ref s_heldColumns_a, .ref s_heldSixties_a, .ref s_certain_a, .int res.2.2.2.2.1, .int res.2.2.2.2.2.1, .int res.2.2.2.2.2.2.1, .int res.2.2.2.2.2.2.2.1, .int res.2.2.2.2.2.2.2.2])), (s_heldRows_a, .inl (cI, 24, .inl res.2.1)), (s_heldColumns_a, .inl (cI, 24, .inl res.2.2.1)), (s_heldSixties_a, .inl (cI, 24, .inl res.2.2.2.1)), (s_certain_a, .inl (cI, 24, .inl s_certain)), (to, .inr (1, [.ref t_cells_a, .ref t_sixties_a, .int t_rows])), (t_cells_a, .inl (cI, 24, .inl t_cells)), (t_sixties_a, .inl (cI, 24, .inl t_sixties))] (fun q => q ∈ ([xo, x_tablets_a, so, s_heldRows_a, s_heldColumns_a, s_heldSixties_a, s_certain_a, to, t_cells_a, t_sixties_a] : List Nat))) 0 0 (fun q => q ∈ ([xo, x_tablets_a, so, s_heldRows_a, s_heldColumns_a, s_heldSixties_a, s_certain_a, to, t_cells_a, t_sixties_a] : List Nat)) :=
  km (by decide) rfl (Nat.le_of_ble_eq_true rfl) (fun p e s m below meth c ls C hB hl => bX6_odd_i C p1 hB.1 (hB.2.2 aL rfl) hnd hti0 htr0 x_stepCount s_heldRows s_heldColumns s_heldSixties s_certain s_heldCount s_rows s_kind s_n s_first t_cells t_sixties t_rows res (fun v s_heldRows1 s_heldColumns1 s_heldSixties1 s_heldCount1 s_rows1 s_kind1 s_n1 s_first1 H locs pc ls h hP hS hd => by obtain rfl := Option.some.inj h; exact kx_i C hP hS hd) hm s.heap [] hB.2.1 va_S.rf ls hl)
abbrev rmX6_odd_o : Room := { frames := 1, cells := 0, slots := 0, locals := 21 }
def mX6_odd_o (p1 : Int32) : Option Int32 := (some (-1 : Int32))
set_option maxHeartbeats 4000000 in
set_option maxRecDepth 100000 in
theorem bX6_odd_o {p : Program} {l : Launch} {e : Env} {s : State} {m : MethodId} {args : Array Value} {below : List Frame} {meth : Method} {c : Code} {Q : State → Prop} (C : kc p s m args meth c cX6_odd 6 RX6 yX6_odd.name wsX6_odd (some .int)) {D : va_G} {cI cT : ClassId} {xo wo x_tablets_a so x_steps_a : Nat} {x_refs : Nat → Option Nat} (p1 : Int32) (hK : va_K D vwCl (kTy cI cT) s) (hto0 : ¬ vp_in p1 4) (x_stepCount : Int32) (hP : va_P D vwCl [(xo, .inr (3, [.ref wo, .ref x_tablets_a, .ref so, .ref x_steps_a, .int x_stepCount])), (x_tablets_a, .inl (cT, 4, .inr (.inr (.inr (.inr x_refs)))))] s.heap) (res : Int32) (hQ : ∀ (v : Int32) (pc : Nat) (ls : Array Slot), some v = some res → decode cX6_odd pc = .ok (.ireturn, 1) → W p l e rmX6_odd_o s m args below meth c s.heap [] 0 0 Q (F0 m pc ls [.int v])) : mX6_odd_o p1 = some res → ∀ (ls : Array Slot), lv_has ls 6 [(0, .ref xo), (1, .int p1)] → W p l e rmX6_odd_o s m args below meth c s.heap [] 0 0 Q (F0 m 0 ls []) := by
  intro h ls hl
  have C0 := C
  obtain ⟨hx, hb, hml, hown, hts, hr, hlk, hnm⟩ := C0
  rw [mX6_odd_o] at h
  refine lv_aload_n hx hb dX6_odd_0 rfl (lv_at hl 0 rfl) ?_
  refine lv_iload_n hx hb dX6_odd_1 rfl (lv_at hl 1 rfl) ?_
  refine kV C (ctX6_clayOf_o l hto0) gX6_odd_X6_clayOf rfl kdvX6_clayOf ⟨rfl, rfl⟩ ⟨by decide, by decide⟩ kW_blind (va_recv hK hP (ci := 3) (q0 := 0) rfl rfl) (kW_use hK (hP.sub (ws' := [(xo, .inr (3, [.ref wo, .ref x_tablets_a, .ref so, .ref x_steps_a, .int x_stepCount])), (x_tablets_a, .inl (cT, 4, .inr (.inr (.inr (.inr x_refs)))))]) [0, 1] rfl) kL_no) rfl hl [] rfl (Nat.le_of_ble_eq_true rfl) dX6_odd_2 ⟨by decide, by decide⟩ ?_
  refine lv_astore_nN (lv' := [(2, .null), (0, .ref xo), (1, .int p1)]) hx hb dX6_odd_5 rfl hl (by decide) rfl (fun ls hl => ?_)
  refine lv_aload_nN hx hb dX6_odd_6 rfl (lv_at hl 0 rfl) ?_
  refine lv_ifnonnullN hx hb dX6_odd_7 ?_
  refine lv_iconst (v := -1) hx hb dX6_odd_10 (by decide) ?_
  exact hQ (-1 : Int32) 11 ls h dX6_odd_11
set_option maxHeartbeats 4000000 in
theorem ctX6_odd_o (l : Launch) {D : va_G} {cI cT : ClassId} {xo wo x_tablets_a so x_steps_a : Nat} {x_refs : Nat → Option Nat} {x_stepCount : Int32} {p1 : Int32} {res : Int32} (hto0 : ¬ vp_in p1 4) (hm : mX6_odd_o p1 = some res) : Met l yX6_odd wsX6_odd rmX6_odd_o (va_Pc [.ref xo, .int p1] (kW D cI cT [(xo, .inr (3, [.ref wo, .ref x_tablets_a, .ref so, .ref x_steps_a, .int x_stepCount])), (x_tablets_a, .inl (cT, 4, .inr (.inr (.inr (.inr x_refs)))))] none (fun _ => False))) (kR (.int res)) 0 0 (fun _ => False) :=
  km (by decide) rfl (Nat.le_of_ble_eq_true rfl) (fun p e s m below meth c ls C hB hl => bX6_odd_o C p1 hB.1 hto0 x_stepCount hB.2.1 res (fun v pc ls h hd => kr_i C h hd) hm ls hl)
theorem kdvX6_triple : yX6_triple.cls = RX6 ∧ yX6_triple.cls ≠ "java/lang/invoke/MethodHandle" ∧ yX6_triple.cls ≠ "java/lang/invoke/VarHandle" ∧ (parseMethodDescriptor yX6_triple.desc).map (fun d => d.parameters.length) = some 3 := by decide +kernel
abbrev rmX6_triple_i : Room := { frames := 3, cells := 0, slots := 0, locals := 73 }
def mlX6_triple_i_40 (x2 : Int32) (x3 : Int32) (x6 : Int32) (t_sixties : Nat → Int32) (kE : Int32 → Option Int32) : Nat → Int32 → Int32 → Option Int32
  | 0, _, _ => none
  | n + 1, x5, x7 => (if x6 ≤ x7 then (kE x5) else (Option.bind (mX6_makesTriple x6 x7) (fun u5 => (md_jn (fun (x5_88 : Int32) => (md_let (x7 + (1 : Int32)) (fun (x7_6 : Int32) => (mlX6_triple_i_40 x2 x3 x6 t_sixties kE n x5_88 x7_6)))) (fun kJ88 => (if u5 = 0 then (kJ88 x5) else (Option.bind (mX6_mayBeTriple t_sixties x2 x6 x7) (fun u8 => (if u8 = 0 then (kJ88 x5) else (if x5 = x3 then (some (((100 : Int32) * x6) + x7)) else (md_let (x5 + (1 : Int32)) (fun (x5_11 : Int32) => (kJ88 x5_11)))))))))))))
set_option maxHeartbeats 4000000 in
set_option maxRecDepth 100000 in
theorem lX6_triple_i_40 {p : Program} {l : Launch} {e : Env} {s : State} {m : MethodId} {args : Array Value} {below : List Frame} {meth : Method} {c : Code} {Q : State → Prop} (C : kc p s m args meth c cX6_triple 8 RX6 yX6_triple.name wsX6_triple (some .int)) {D : va_G} {cI cT : ClassId} {xo wo x_tablets_a so x_steps_a to t_cells_a t_sixties_a : Nat} {x_refs : Nat → Option Nat} (hK : va_K D vwCl (kTy cI cT) s) (x2 : Int32) (x3 : Int32) (x6 : Int32) (x_stepCount : Int32) (t_cells : Nat → Int32) (t_sixties : Nat → Int32) (t_rows : Int32) (hP : va_P D vwCl [(xo, .inr (3, [.ref wo, .ref x_tablets_a, .ref so, .ref x_steps_a, .int x_stepCount])), (x_tablets_a, .inl (cT, 4, .inr (.inr (.inr (.inr x_refs))))), (to, .inr (1, [.ref t_cells_a, .ref t_sixties_a, .int t_rows])), (t_cells_a, .inl (cI, 24, .inl t_cells)), (t_sixties_a, .inl (cI, 24, .inl t_sixties))] s.heap) (res : Int32) (hQ : ∀ (v : Int32) (pc : Nat) (ls : Array Slot), some v = some res → decode cX6_triple pc = .ok (.ireturn, 1) → W p l e rmX6_triple_i s m args below meth c s.heap [] 0 0 Q (F0 m pc ls [.int v])) (kE : Int32 → Option Int32) (hE : ∀ (y5 : Int32), kE y5 = some res → ∀ (ls : Array Slot), lv_has ls 8 [(2, .int x2), (3, .int x3), (4, .ref to), (5, .int y5), (6, .int x6)] → W p l e rmX6_triple_i s m args below meth c s.heap [] 0 0 Q (F0 m 94 ls [])) : ∀ (n : Nat), ∀ (x5 : Int32) (x7 : Int32), mlX6_triple_i_40 x2 x3 x6 t_sixties kE n x5 x7 = some res → ∀ (ls : Array Slot), lv_has ls 8 [(2, .int x2), (3, .int x3), (4, .ref to), (5, .int x5), (6, .int x6), (7, .int x7)] → W p l e rmX6_triple_i s m args below meth c s.heap [] 0 0 Q (F0 m 40 ls []) := by
  have C0 := C
  obtain ⟨hx, hb, hml, hown, hts, hr, hlk, hnm⟩ := C0
  intro n
  induction n with
  | zero => intro _ _ h; exact md_x h
  | succ n ih =>
    intro x5 x7 h ls hl
    rw [mlX6_triple_i_40] at h
    refine lv_iload hx hb dX6_triple_40 (lv_at hl 5 rfl) ?_
    refine lv_iload hx hb dX6_triple_42 (lv_at hl 4 rfl) ?_
    refine lv_icmp_ge (tgt := 94) hx hb dX6_triple_44 (by decide) (fun c4 => ?_) (fun c4 => ?_)
    · replace h := md_t c4 h
      exact hE x5 h ls (lv_sub hl [0, 1, 2, 3, 4] rfl)
    replace h := md_f c4 h
    refine lv_iload hx hb dX6_triple_47 (lv_at hl 4 rfl) ?_
    refine lv_iload hx hb dX6_triple_49 (lv_at hl 5 rfl) ?_
    obtain ⟨u5, hu5, h⟩ := md_b h
    refine kS C (ctX6_makesTriple l  hu5) gX6_triple_X6_makesTriple rfl kdX6_makesTriple ⟨rfl, rfl⟩ ⟨by decide, by decide⟩ kT_blind (fun _ _ _ => trivial) rfl hl [] rfl (Nat.le_of_ble_eq_true rfl) dX6_triple_51 ⟨by decide, by decide⟩ ?_
    obtain ⟨kJ88, ekJ88, h⟩ := md_jo h
    have KJ88 : ∀ (x5_88 : Int32), kJ88 x5_88 = some res → ∀ (ls : Array Slot), lv_has ls 8 [(2, .int x2), (3, .int x3), (4, .ref to), (5, .int x5_88), (6, .int x6), (7, .int x7)] → W p l e rmX6_triple_i s m args below meth c s.heap [] 0 0 Q (F0 m 88 ls []) := by
      intro x5_88 h ls hl
      rw [ekJ88] at h
      obtain ⟨x7_6, ex7_6⟩ : ∃ y : Int32, y = (x7 + (1 : Int32)) := ⟨_, rfl⟩
      replace h := md_le ex7_6 h
      refine lv_iinc (v := x7_6) (lv' := [(7, .int x7_6), (2, .int x2), (3, .int x3), (4, .ref to), (5, .int x5_88), (6, .int x6)]) hx hb dX6_triple_88 hl (k := 5) rfl (by rw [ex7_6]; rfl) (by decide) rfl (fun ls hl => ?_)
      refine lv_goto (tgt := 40) hx hb dX6_triple_91 (by decide) ?_
      exact ih x5_88 x7_6 h ls (lv_sub hl [1, 2, 3, 4, 5, 0] rfl)
    clear ekJ88
    refine lv_if_eq (tgt := 88) hx hb dX6_triple_54 (by decide) (fun c7 => ?_) (fun c7 => ?_)
    · replace h := md_t c7 h
      exact KJ88 x5 h ls (lv_sub hl [0, 1, 2, 3, 4, 5] rfl)
    replace h := md_f c7 h
    refine lv_aload hx hb dX6_triple_57 (lv_at hl 2 rfl) ?_
    refine lv_iload_n hx hb dX6_triple_59 rfl (lv_at hl 0 rfl) ?_
    refine lv_iload hx hb dX6_triple_60 (lv_at hl 4 rfl) ?_
    refine lv_iload hx hb dX6_triple_62 (lv_at hl 5 rfl) ?_
    obtain ⟨u8, hu8, h⟩ := md_b h
    refine kS C (ctX6_mayBeTriple l  hu8) gX6_triple_X6_mayBeTriple rfl kdX6_mayBeTriple ⟨rfl, rfl⟩ ⟨by decide, by decide⟩ kW_blind (kW_use hK (hP.sub (ws' := [(to, .inr (1, [.ref t_cells_a, .ref t_sixties_a, .int t_rows])), (t_cells_a, .inl (cI, 24, .inl t_cells)), (t_sixties_a, .inl (cI, 24, .inl t_sixties))]) [2, 3, 4] rfl) kL_no) rfl hl [] rfl (Nat.le_of_ble_eq_true rfl) dX6_triple_64 ⟨by decide, by decide⟩ ?_
    refine lv_if_eq (tgt := 88) hx hb dX6_triple_67 (by decide) (fun c9 => ?_) (fun c9 => ?_)
    · replace h := md_t c9 h
      exact KJ88 x5 h ls (lv_sub hl [0, 1, 2, 3, 4, 5] rfl)
    replace h := md_f c9 h
    refine lv_iload hx hb dX6_triple_70 (lv_at hl 3 rfl) ?_
    refine lv_iload_n hx hb dX6_triple_72 rfl (lv_at hl 1 rfl) ?_
    refine lv_icmp_ne (tgt := 85) hx hb dX6_triple_73 (by decide) (fun c10 => ?_) (fun c10 => ?_)
    · replace h := md_f c10 h
      obtain ⟨x5_11, ex5_11⟩ : ∃ y : Int32, y = (x5 + (1 : Int32)) := ⟨_, rfl⟩
      replace h := md_le ex5_11 h
      refine lv_iinc (v := x5_11) (lv' := [(5, .int x5_11), (2, .int x2), (3, .int x3), (4, .ref to), (6, .int x6), (7, .int x7)]) hx hb dX6_triple_85 hl (k := 3) rfl (by rw [ex5_11]; rfl) (by decide) rfl (fun ls hl => ?_)
      exact KJ88 x5_11 h ls (lv_sub hl [1, 2, 3, 0, 4, 5] rfl)
    replace h := md_t c10 h
    refine lv_bipush (v := 100) hx hb dX6_triple_76 (by decide) ?_
    refine lv_iload hx hb dX6_triple_78 (lv_at hl 4 rfl) ?_
    refine lv_imul hx hb dX6_triple_80 ?_
    refine lv_iload hx hb dX6_triple_81 (lv_at hl 5 rfl) ?_
    refine lv_iadd hx hb dX6_triple_83 ?_
    exact hQ (((100 : Int32) * x6) + x7) 84 ls h dX6_triple_84
def mlX6_triple_i_30 (x2 : Int32) (x3 : Int32) (t_sixties : Nat → Int32) (kE : Int32 → Option Int32) : Nat → Int32 → Int32 → Option Int32
  | 0, _, _ => none
  | n + 1, x5, x6 => (if (12 : Int32) < x6 then (kE x5) else (mlX6_triple_i_40 x2 x3 x6 t_sixties (fun (y5_94 : Int32) => (md_let (x6 + (1 : Int32)) (fun (x6_12 : Int32) => (mlX6_triple_i_30 x2 x3 t_sixties kE n y5_94 x6_12)))) kN x5 (1 : Int32)))
set_option maxHeartbeats 4000000 in
set_option maxRecDepth 100000 in
theorem lX6_triple_i_30 {p : Program} {l : Launch} {e : Env} {s : State} {m : MethodId} {args : Array Value} {below : List Frame} {meth : Method} {c : Code} {Q : State → Prop} (C : kc p s m args meth c cX6_triple 8 RX6 yX6_triple.name wsX6_triple (some .int)) {D : va_G} {cI cT : ClassId} {xo wo x_tablets_a so x_steps_a to t_cells_a t_sixties_a : Nat} {x_refs : Nat → Option Nat} (hK : va_K D vwCl (kTy cI cT) s) (x2 : Int32) (x3 : Int32) (x_stepCount : Int32) (t_cells : Nat → Int32) (t_sixties : Nat → Int32) (t_rows : Int32) (hP : va_P D vwCl [(xo, .inr (3, [.ref wo, .ref x_tablets_a, .ref so, .ref x_steps_a, .int x_stepCount])), (x_tablets_a, .inl (cT, 4, .inr (.inr (.inr (.inr x_refs))))), (to, .inr (1, [.ref t_cells_a, .ref t_sixties_a, .int t_rows])), (t_cells_a, .inl (cI, 24, .inl t_cells)), (t_sixties_a, .inl (cI, 24, .inl t_sixties))] s.heap) (res : Int32) (hQ : ∀ (v : Int32) (pc : Nat) (ls : Array Slot), some v = some res → decode cX6_triple pc = .ok (.ireturn, 1) → W p l e rmX6_triple_i s m args below meth c s.heap [] 0 0 Q (F0 m pc ls [.int v])) (kE : Int32 → Option Int32) (hE : ∀ (y5 : Int32), kE y5 = some res → ∀ (ls : Array Slot), lv_has ls 8 [(3, .int x3), (5, .int y5)] → W p l e rmX6_triple_i s m args below meth c s.heap [] 0 0 Q (F0 m 100 ls [])) : ∀ (n : Nat), ∀ (x5 : Int32) (x6 : Int32), mlX6_triple_i_30 x2 x3 t_sixties kE n x5 x6 = some res → ∀ (ls : Array Slot), lv_has ls 8 [(2, .int x2), (3, .int x3), (4, .ref to), (5, .int x5), (6, .int x6)] → W p l e rmX6_triple_i s m args below meth c s.heap [] 0 0 Q (F0 m 30 ls []) := by
  have C0 := C
  obtain ⟨hx, hb, hml, hown, hts, hr, hlk, hnm⟩ := C0
  intro n
  induction n with
  | zero => intro _ _ h; exact md_x h
  | succ n ih =>
    intro x5 x6 h ls hl
    rw [mlX6_triple_i_30] at h
    refine lv_iload hx hb dX6_triple_30 (lv_at hl 4 rfl) ?_
    refine lv_bipush (v := 12) hx hb dX6_triple_32 (by decide) ?_
    refine lv_icmp_gt (tgt := 100) hx hb dX6_triple_34 (by decide) (fun c3 => ?_) (fun c3 => ?_)
    · replace h := md_t c3 h
      exact hE x5 h ls (lv_sub hl [1, 3] rfl)
    replace h := md_f c3 h
    refine lv_iconst (v := 1) hx hb dX6_triple_37 (by decide) ?_
    refine lv_istore (lv' := [(7, .int (1 : Int32)), (2, .int x2), (3, .int x3), (4, .ref to), (5, .int x5), (6, .int x6)]) hx hb dX6_triple_38 hl (by decide) rfl (fun ls hl => ?_)
    refine lX6_triple_i_40 (xo := xo) (wo := wo) (x_tablets_a := x_tablets_a) (so := so) (x_steps_a := x_steps_a) (to := to) (t_cells_a := t_cells_a) (t_sixties_a := t_sixties_a) C hK x2 x3 x6 x_stepCount t_cells t_sixties t_rows hP res hQ _ (fun y5_94 h ls hl => ?_) kN x5 (1 : Int32) h ls (lv_sub hl [1, 2, 3, 4, 5, 0] rfl)
    obtain ⟨x6_12, ex6_12⟩ : ∃ y : Int32, y = (x6 + (1 : Int32)) := ⟨_, rfl⟩
    replace h := md_le ex6_12 h
    refine lv_iinc (v := x6_12) (lv' := [(6, .int x6_12), (2, .int x2), (3, .int x3), (4, .ref to), (5, .int y5_94)]) hx hb dX6_triple_94 hl (k := 4) rfl (by rw [ex6_12]; rfl) (by decide) rfl (fun ls hl => ?_)
    refine lv_goto (tgt := 30) hx hb dX6_triple_97 (by decide) ?_
    exact ih y5_94 x6_12 h ls (lv_sub hl [1, 2, 3, 4, 0] rfl)
def mX6_triple_i (t_sixties : Nat → Int32) (t_rows : Int32) (p1 : Int32) (p2 : Int32) (p3 : Int32) : Option Int32 := (Option.bind (mX3_hasCell t_rows p2 (0 : Int32)) (fun u1 => (if u1 = 0 then (some (-1 : Int32)) else (mlX6_triple_i_30 p2 p3 t_sixties (fun (y5_100 : Int32) => (if p3 = (-1 : Int32) then (some y5_100) else (some (-6 : Int32)))) kN (0 : Int32) (2 : Int32)))))
set_option maxHeartbeats 4000000 in
set_option maxRecDepth 100000 in
theorem bX6_triple_i {p : Program} {l : Launch} {e : Env} {s : State} {m : MethodId} {args : Array Value} {below : List Frame} {meth : Method} {c : Code} {Q : State → Prop} (C : kc p s m args meth c cX6_triple 8 RX6 yX6_triple.name wsX6_triple (some .int)) {D : va_G} {cI cT : ClassId} {xo wo x_tablets_a so x_steps_a to t_cells_a t_sixties_a : Nat} {x_refs : Nat → Option Nat} (p1 : Int32) (p2 : Int32) (p3 : Int32) (hK : va_K D vwCl (kTy cI cT) s) (hti0 : vp_in p1 4) (htr0 : x_refs (Int32.toNatClampNeg p1) = some to) (x_stepCount : Int32) (t_cells : Nat → Int32) (t_sixties : Nat → Int32) (t_rows : Int32) (hP : va_P D vwCl [(xo, .inr (3, [.ref wo, .ref x_tablets_a, .ref so, .ref x_steps_a, .int x_stepCount])), (x_tablets_a, .inl (cT, 4, .inr (.inr (.inr (.inr x_refs))))), (to, .inr (1, [.ref t_cells_a, .ref t_sixties_a, .int t_rows])), (t_cells_a, .inl (cI, 24, .inl t_cells)), (t_sixties_a, .inl (cI, 24, .inl t_sixties))] s.heap) (res : Int32) (hQ : ∀ (v : Int32) (pc : Nat) (ls : Array Slot), some v = some res → decode cX6_triple pc = .ok (.ireturn, 1) → W p l e rmX6_triple_i s m args below meth c s.heap [] 0 0 Q (F0 m pc ls [.int v])) : mX6_triple_i t_sixties t_rows p1 p2 p3 = some res → ∀ (ls : Array Slot), lv_has ls 8 [(0, .ref xo), (1, .int p1), (2, .int p2), (3, .int p3)] → W p l e rmX6_triple_i s m args below meth c s.heap [] 0 0 Q (F0 m 0 ls []) := by
  intro h ls hl
  have C0 := C
  obtain ⟨hx, hb, hml, hown, hts, hr, hlk, hnm⟩ := C0
  rw [mX6_triple_i] at h
  refine lv_aload_n hx hb dX6_triple_0 rfl (lv_at hl 0 rfl) ?_
  refine lv_iload_n hx hb dX6_triple_1 rfl (lv_at hl 1 rfl) ?_
  refine kV C (ctX6_clayOf_i l hti0 htr0) gX6_triple_X6_clayOf rfl kdvX6_clayOf ⟨rfl, rfl⟩ ⟨by decide, by decide⟩ kW_blind (va_recv hK hP (ci := 3) (q0 := 0) rfl rfl) (kW_use hK (hP.sub (ws' := [(xo, .inr (3, [.ref wo, .ref x_tablets_a, .ref so, .ref x_steps_a, .int x_stepCount])), (x_tablets_a, .inl (cT, 4, .inr (.inr (.inr (.inr x_refs)))))]) [0, 1] rfl) kL_no) rfl hl [] rfl (Nat.le_of_ble_eq_true rfl) dX6_triple_2 ⟨by decide, by decide⟩ ?_
  refine lv_astore (lv' := [(4, .ref to), (0, .ref xo), (1, .int p1), (2, .int p2), (3, .int p3)]) hx hb dX6_triple_5 hl (by decide) rfl (fun ls hl => ?_)
  refine lv_aload hx hb dX6_triple_7 (lv_at hl 0 rfl) ?_
  refine lv_ifnull hx hb dX6_triple_9 ?_
  refine lv_aload hx hb dX6_triple_12 (lv_at hl 0 rfl) ?_
  refine lv_iload_n hx hb dX6_triple_14 rfl (lv_at hl 3 rfl) ?_
  refine lv_iconst (v := 0) hx hb dX6_triple_15 (by decide) ?_
  obtain ⟨u1, hu1, h⟩ := md_b h
  refine kV C (ctX3_hasCell l  hu1) gX6_triple_X3_hasCell rfl kdvX3_hasCell ⟨rfl, rfl⟩ ⟨by decide, by decide⟩ kW_blind (va_recv hK hP (ci := 1) (q0 := 2) rfl rfl) (kW_use hK (hP.sub (ws' := [(to, .inr (1, [.ref t_cells_a, .ref t_sixties_a, .int t_rows])), (t_cells_a, .inl (cI, 24, .inl t_cells)), (t_sixties_a, .inl (cI, 24, .inl t_sixties))]) [2, 3, 4] rfl) kL_no) rfl hl [] rfl (Nat.le_of_ble_eq_true rfl) dX6_triple_16 ⟨by decide, by decide⟩ ?_
  refine lv_if_ne (tgt := 24) hx hb dX6_triple_19 (by decide) (fun c2 => ?_) (fun c2 => ?_)
  · replace h := md_f c2 h
    refine lv_iconst (v := 0) hx hb dX6_triple_24 (by decide) ?_
    refine lv_istore (lv' := [(5, .int (0 : Int32)), (4, .ref to), (0, .ref xo), (1, .int p1), (2, .int p2), (3, .int p3)]) hx hb dX6_triple_25 hl (by decide) rfl (fun ls hl => ?_)
    refine lv_iconst (v := 2) hx hb dX6_triple_27 (by decide) ?_
    refine lv_istore (lv' := [(6, .int (2 : Int32)), (5, .int (0 : Int32)), (4, .ref to), (0, .ref xo), (1, .int p1), (2, .int p2), (3, .int p3)]) hx hb dX6_triple_28 hl (by decide) rfl (fun ls hl => ?_)
    refine lX6_triple_i_30 (xo := xo) (wo := wo) (x_tablets_a := x_tablets_a) (so := so) (x_steps_a := x_steps_a) (to := to) (t_cells_a := t_cells_a) (t_sixties_a := t_sixties_a) C hK p2 p3 x_stepCount t_cells t_sixties t_rows hP res hQ _ (fun y5_100 h ls hl => ?_) kN (0 : Int32) (2 : Int32) h ls (lv_sub hl [5, 6, 2, 1, 0] rfl)
    refine lv_iload_n hx hb dX6_triple_100 rfl (lv_at hl 0 rfl) ?_
    refine lv_iconst (v := -1) hx hb dX6_triple_101 (by decide) ?_
    refine lv_icmp_ne (tgt := 110) hx hb dX6_triple_102 (by decide) (fun c13 => ?_) (fun c13 => ?_)
    · replace h := md_f c13 h
      refine lv_bipush (v := -6) hx hb dX6_triple_110 (by decide) ?_
      exact hQ (-6 : Int32) 112 ls h dX6_triple_112
    replace h := md_t c13 h
    refine lv_iload hx hb dX6_triple_105 (lv_at hl 1 rfl) ?_
    refine lv_goto (tgt := 112) hx hb dX6_triple_107 (by decide) ?_
    exact hQ y5_100 112 ls h dX6_triple_112
  replace h := md_t c2 h
  refine lv_iconst (v := -1) hx hb dX6_triple_22 (by decide) ?_
  exact hQ (-1 : Int32) 23 ls h dX6_triple_23
set_option maxHeartbeats 4000000 in
theorem ctX6_triple_i (l : Launch) {D : va_G} {cI cT : ClassId} {xo wo x_tablets_a so x_steps_a to t_cells_a t_sixties_a : Nat} {x_refs : Nat → Option Nat} {x_stepCount : Int32} {t_cells : Nat → Int32} {t_sixties : Nat → Int32} {t_rows : Int32} {p1 : Int32} {p2 : Int32} {p3 : Int32} {res : Int32} (hti0 : vp_in p1 4) (htr0 : x_refs (Int32.toNatClampNeg p1) = some to) (hm : mX6_triple_i t_sixties t_rows p1 p2 p3 = some res) : Met l yX6_triple wsX6_triple rmX6_triple_i (va_Pc [.ref xo, .int p1, .int p2, .int p3] (kW D cI cT [(xo, .inr (3, [.ref wo, .ref x_tablets_a, .ref so, .ref x_steps_a, .int x_stepCount])), (x_tablets_a, .inl (cT, 4, .inr (.inr (.inr (.inr x_refs))))), (to, .inr (1, [.ref t_cells_a, .ref t_sixties_a, .int t_rows])), (t_cells_a, .inl (cI, 24, .inl t_cells)), (t_sixties_a, .inl (cI, 24, .inl t_sixties))] none (fun _ => False))) (kR (.int res)) 0 0 (fun _ => False) :=
  km (by decide) rfl (Nat.le_of_ble_eq_true rfl) (fun p e s m below meth c ls C hB hl => bX6_triple_i C p1 p2 p3 hB.1 hti0 htr0 x_stepCount t_cells t_sixties t_rows hB.2.1 res (fun v pc ls h hd => kr_i C h hd) hm ls hl)
abbrev rmX6_triple_o : Room := { frames := 1, cells := 0, slots := 0, locals := 21 }
def mX6_triple_o (p1 : Int32) (p2 : Int32) (p3 : Int32) : Option Int32 := (some (-1 : Int32))
set_option maxHeartbeats 4000000 in
set_option maxRecDepth 100000 in
theorem bX6_triple_o {p : Program} {l : Launch} {e : Env} {s : State} {m : MethodId} {args : Array Value} {below : List Frame} {meth : Method} {c : Code} {Q : State → Prop} (C : kc p s m args meth c cX6_triple 8 RX6 yX6_triple.name wsX6_triple (some .int)) {D : va_G} {cI cT : ClassId} {xo wo x_tablets_a so x_steps_a : Nat} {x_refs : Nat → Option Nat} (p1 : Int32) (p2 : Int32) (p3 : Int32) (hK : va_K D vwCl (kTy cI cT) s) (hto0 : ¬ vp_in p1 4) (x_stepCount : Int32) (hP : va_P D vwCl [(xo, .inr (3, [.ref wo, .ref x_tablets_a, .ref so, .ref x_steps_a, .int x_stepCount])), (x_tablets_a, .inl (cT, 4, .inr (.inr (.inr (.inr x_refs)))))] s.heap) (res : Int32) (hQ : ∀ (v : Int32) (pc : Nat) (ls : Array Slot), some v = some res → decode cX6_triple pc = .ok (.ireturn, 1) → W p l e rmX6_triple_o s m args below meth c s.heap [] 0 0 Q (F0 m pc ls [.int v])) : mX6_triple_o p1 p2 p3 = some res → ∀ (ls : Array Slot), lv_has ls 8 [(0, .ref xo), (1, .int p1), (2, .int p2), (3, .int p3)] → W p l e rmX6_triple_o s m args below meth c s.heap [] 0 0 Q (F0 m 0 ls []) := by
  intro h ls hl
  have C0 := C
  obtain ⟨hx, hb, hml, hown, hts, hr, hlk, hnm⟩ := C0
  rw [mX6_triple_o] at h
  refine lv_aload_n hx hb dX6_triple_0 rfl (lv_at hl 0 rfl) ?_
  refine lv_iload_n hx hb dX6_triple_1 rfl (lv_at hl 1 rfl) ?_
  refine kV C (ctX6_clayOf_o l hto0) gX6_triple_X6_clayOf rfl kdvX6_clayOf ⟨rfl, rfl⟩ ⟨by decide, by decide⟩ kW_blind (va_recv hK hP (ci := 3) (q0 := 0) rfl rfl) (kW_use hK (hP.sub (ws' := [(xo, .inr (3, [.ref wo, .ref x_tablets_a, .ref so, .ref x_steps_a, .int x_stepCount])), (x_tablets_a, .inl (cT, 4, .inr (.inr (.inr (.inr x_refs)))))]) [0, 1] rfl) kL_no) rfl hl [] rfl (Nat.le_of_ble_eq_true rfl) dX6_triple_2 ⟨by decide, by decide⟩ ?_
  refine lv_astoreN (lv' := [(4, .null), (0, .ref xo), (1, .int p1), (2, .int p2), (3, .int p3)]) hx hb dX6_triple_5 hl (by decide) rfl (fun ls hl => ?_)
  refine lv_aloadN hx hb dX6_triple_7 (lv_at hl 0 rfl) ?_
  refine lv_ifnullN (tgt := 22) hx hb dX6_triple_9 (by decide) ?_
  refine lv_iconst (v := -1) hx hb dX6_triple_22 (by decide) ?_
  exact hQ (-1 : Int32) 23 ls h dX6_triple_23
set_option maxHeartbeats 4000000 in
theorem ctX6_triple_o (l : Launch) {D : va_G} {cI cT : ClassId} {xo wo x_tablets_a so x_steps_a : Nat} {x_refs : Nat → Option Nat} {x_stepCount : Int32} {p1 : Int32} {p2 : Int32} {p3 : Int32} {res : Int32} (hto0 : ¬ vp_in p1 4) (hm : mX6_triple_o p1 p2 p3 = some res) : Met l yX6_triple wsX6_triple rmX6_triple_o (va_Pc [.ref xo, .int p1, .int p2, .int p3] (kW D cI cT [(xo, .inr (3, [.ref wo, .ref x_tablets_a, .ref so, .ref x_steps_a, .int x_stepCount])), (x_tablets_a, .inl (cT, 4, .inr (.inr (.inr (.inr x_refs)))))] none (fun _ => False))) (kR (.int res)) 0 0 (fun _ => False) :=
  km (by decide) rfl (Nat.le_of_ble_eq_true rfl) (fun p e s m below meth c ls C hB hl => bX6_triple_o C p1 p2 p3 hB.1 hto0 x_stepCount hB.2.1 res (fun v pc ls h hd => kr_i C h hd) hm ls hl)
theorem kdvX6_join : yX6_join.cls = RX6 ∧ yX6_join.cls ≠ "java/lang/invoke/MethodHandle" ∧ yX6_join.cls ≠ "java/lang/invoke/VarHandle" ∧ (parseMethodDescriptor yX6_join.desc).map (fun d => d.parameters.length) = some 3 := by decide +kernel
abbrev rmX6_join_i : Room := { frames := 3, cells := 0, slots := 0, locals := 72 }
def mX6_join_i (t_cells : Nat → Int32) (t_sixties : Nat → Int32) (t_rows : Int32) (u_cells : Nat → Int32) (u_sixties : Nat → Int32) (u_rows : Int32) (p1 : Int32) (p2 : Int32) (p3 : Int32) : Option (Int32 × (Nat → Int32) × (Nat → Int32) × Int32) := (if p1 = p2 then (some ((-1 : Int32), t_cells, t_sixties, t_rows)) else (if p3 < 0 then (some ((-2 : Int32), t_cells, t_sixties, t_rows)) else (if p3 < (8 : Int32) then (Option.bind (mX3_rowCount t_rows) (fun u4 => (if p3 ≤ u4 then (Option.bind (mX3_rowCount u_rows) (fun u6 => (if (p3 + u6) ≤ (8 : Int32) then (Option.bind (mX3_fits t_sixties u_sixties u_rows p3) (fun u8 => (if u8 = 0 then (some ((-5 : Int32), t_cells, t_sixties, t_rows)) else (Option.bind (mX3_take t_cells t_sixties t_rows u_cells u_rows p3) (fun u10 => (Option.bind (mX3_rowCount u10.2.2) (fun u11 => (some (u11, u10.1, u10.2.1, u10.2.2))))))))) else (some ((-4 : Int32), t_cells, t_sixties, t_rows))))) else (some ((-3 : Int32), t_cells, t_sixties, t_rows))))) else (some ((-2 : Int32), t_cells, t_sixties, t_rows)))))
set_option maxHeartbeats 4000000 in
set_option maxRecDepth 100000 in
theorem bX6_join_i {p : Program} {l : Launch} {e : Env} {s : State} {m : MethodId} {args : Array Value} {below : List Frame} {meth : Method} {c : Code} {Q : State → Prop} (C : kc p s m args meth c cX6_join 6 RX6 yX6_join.name wsX6_join (some .int)) {D : va_G} {cI cT : ClassId} {xo wo x_tablets_a so x_steps_a to t_cells_a t_sixties_a uo u_cells_a u_sixties_a : Nat} {x_refs : Nat → Option Nat} (p1 : Int32) (p2 : Int32) (p3 : Int32) (hK : va_K D vwCl (kTy cI cT) s) (hnd : ([xo, x_tablets_a, to, t_cells_a, t_sixties_a, uo, u_cells_a, u_sixties_a] : List Nat).Nodup) (hti0 : vp_in p1 4) (htr0 : x_refs (Int32.toNatClampNeg p1) = some to) (hti1 : vp_in p2 4) (htr1 : x_refs (Int32.toNatClampNeg p2) = some uo) (x_stepCount : Int32) (t_cells : Nat → Int32) (t_sixties : Nat → Int32) (t_rows : Int32) (u_cells : Nat → Int32) (u_sixties : Nat → Int32) (u_rows : Int32) (res : (Int32 × (Nat → Int32) × (Nat → Int32) × Int32)) (hQ : ∀ (v : Int32) (t_cells : Nat → Int32) (t_sixties : Nat → Int32) (t_rows : Int32) (H : Heap) (locs : List Loc) (pc : Nat) (ls : Array Slot), some (v, t_cells, t_sixties, t_rows) = some res → va_P D vwCl [(xo, .inr (3, [.ref wo, .ref x_tablets_a, .ref so, .ref x_steps_a, .int x_stepCount])), (x_tablets_a, .inl (cT, 4, .inr (.inr (.inr (.inr x_refs))))), (to, .inr (1, [.ref t_cells_a, .ref t_sixties_a, .int t_rows])), (t_cells_a, .inl (cI, 24, .inl t_cells)), (t_sixties_a, .inl (cI, 24, .inl t_sixties)), (uo, .inr (1, [.ref u_cells_a, .ref u_sixties_a, .int u_rows])), (u_cells_a, .inl (cI, 24, .inl u_cells)), (u_sixties_a, .inl (cI, 24, .inl u_sixties))] H → va_S (fun q => q ∈ ([xo, x_tablets_a, to, t_cells_a, t_sixties_a, uo, u_cells_a, u_sixties_a] : List Nat)) s.heap H locs → decode cX6_join pc = .ok (.ireturn, 1) → W p l e rmX6_join_i s m args below meth c H locs 0 0 Q (F0 m pc ls [.int v])) : mX6_join_i t_cells t_sixties t_rows u_cells u_sixties u_rows p1 p2 p3 = some res → ∀ (H : Heap) (locs : List Loc), va_P D vwCl [(xo, .inr (3, [.ref wo, .ref x_tablets_a, .ref so, .ref x_steps_a, .int x_stepCount])), (x_tablets_a, .inl (cT, 4, .inr (.inr (.inr (.inr x_refs))))), (to, .inr (1, [.ref t_cells_a, .ref t_sixties_a, .int t_rows])), (t_cells_a, .inl (cI, 24, .inl t_cells)), (t_sixties_a, .inl (cI, 24, .inl t_sixties)), (uo, .inr (1, [.ref u_cells_a, .ref u_sixties_a, .int u_rows])), (u_cells_a, .inl (cI, 24, .inl u_cells)), (u_sixties_a, .inl (cI, 24, .inl u_sixties))] H → va_S (fun q => q ∈ ([xo, x_tablets_a, to, t_cells_a, t_sixties_a, uo, u_cells_a, u_sixties_a] : List Nat)) s.heap H locs → ∀ (ls : Array Slot), lv_has ls 6 [(0, .ref xo), (1, .int p1), (2, .int p2), (3, .int p3)] → W p l e rmX6_join_i s m args below meth c H locs 0 0 Q (F0 m 0 ls []) := by
  intro h H locs hP hS ls hl
  have C0 := C
  obtain ⟨hx, hb, hml, hown, hts, hr, hlk, hnm⟩ := C0
  rw [mX6_join_i] at h
  refine lv_aload_n hx hb dX6_join_0 rfl (lv_at hl 0 rfl) ?_
  refine lv_iload_n hx hb dX6_join_1 rfl (lv_at hl 1 rfl) ?_
  refine kV C (ctX6_clayOf_i l hti0 htr0) gX6_join_X6_clayOf rfl kdvX6_clayOf ⟨rfl, rfl⟩ ⟨by decide, by decide⟩ kW_blind (va_recv hK hP (ci := 3) (q0 := 0) rfl rfl) (kW_use hK (hP.sub (ws' := [(xo, .inr (3, [.ref wo, .ref x_tablets_a, .ref so, .ref x_steps_a, .int x_stepCount])), (x_tablets_a, .inl (cT, 4, .inr (.inr (.inr (.inr x_refs)))))]) [0, 1] rfl) kL_no) rfl hl [] rfl (Nat.le_of_ble_eq_true rfl) dX6_join_2 ⟨by decide, by decide⟩ ?_
  refine lv_astore (lv' := [(4, .ref to), (0, .ref xo), (1, .int p1), (2, .int p2), (3, .int p3)]) hx hb dX6_join_5 hl (by decide) rfl (fun ls hl => ?_)
  refine lv_aload_n hx hb dX6_join_7 rfl (lv_at hl 1 rfl) ?_
  refine lv_iload_n hx hb dX6_join_8 rfl (lv_at hl 3 rfl) ?_
  refine kV C (ctX6_clayOf_i l hti1 htr1) gX6_join_X6_clayOf rfl kdvX6_clayOf ⟨rfl, rfl⟩ ⟨by decide, by decide⟩ kW_blind (va_recv hK hP (ci := 3) (q0 := 0) rfl rfl) (kW_use hK (hP.sub (ws' := [(xo, .inr (3, [.ref wo, .ref x_tablets_a, .ref so, .ref x_steps_a, .int x_stepCount])), (x_tablets_a, .inl (cT, 4, .inr (.inr (.inr (.inr x_refs)))))]) [0, 1] rfl) kL_no) rfl hl [] rfl (Nat.le_of_ble_eq_true rfl) dX6_join_9 ⟨by decide, by decide⟩ ?_
  refine lv_astore (lv' := [(5, .ref uo), (4, .ref to), (0, .ref xo), (1, .int p1), (2, .int p2), (3, .int p3)]) hx hb dX6_join_12 hl (by decide) rfl (fun ls hl => ?_)
  refine lv_aload hx hb dX6_join_14 (lv_at hl 1 rfl) ?_
  refine lv_ifnull hx hb dX6_join_16 ?_
  refine lv_aload hx hb dX6_join_19 (lv_at hl 0 rfl) ?_
  refine lv_ifnull hx hb dX6_join_21 ?_
  refine lv_iload_n hx hb dX6_join_24 rfl (lv_at hl 3 rfl) ?_
  refine lv_iload_n hx hb dX6_join_25 rfl (lv_at hl 4 rfl) ?_
  refine lv_icmp_ne (tgt := 31) hx hb dX6_join_26 (by decide) (fun c1 => ?_) (fun c1 => ?_)
  · replace h := md_f c1 h
    refine lv_iload_n hx hb dX6_join_31 rfl (lv_at hl 5 rfl) ?_
    refine lv_if_lt (tgt := 41) hx hb dX6_join_32 (by decide) (fun c2 => ?_) (fun c2 => ?_)
    · replace h := md_t c2 h
      refine lv_bipush (v := -2) hx hb dX6_join_41 (by decide) ?_
      exact hQ (-2 : Int32) t_cells t_sixties t_rows H locs 43 ls h hP hS dX6_join_43
    replace h := md_f c2 h
    refine lv_iload_n hx hb dX6_join_35 rfl (lv_at hl 5 rfl) ?_
    refine lv_bipush (v := 8) hx hb dX6_join_36 (by decide) ?_
    refine lv_icmp_lt (tgt := 44) hx hb dX6_join_38 (by decide) (fun c3 => ?_) (fun c3 => ?_)
    · replace h := md_t c3 h
      refine lv_iload_n hx hb dX6_join_44 rfl (lv_at hl 5 rfl) ?_
      refine lv_aload hx hb dX6_join_45 (lv_at hl 1 rfl) ?_
      obtain ⟨u4, hu4, h⟩ := md_b h
      refine kV C (ctX3_rowCount l  hu4) gX6_join_X3_rowCount rfl kdvX3_rowCount ⟨rfl, rfl⟩ ⟨by decide, by decide⟩ kW_blind (va_recv hK hP (ci := 1) (q0 := 2) rfl rfl) (kW_use hK (hP.sub (ws' := [(to, .inr (1, [.ref t_cells_a, .ref t_sixties_a, .int t_rows])), (t_cells_a, .inl (cI, 24, .inl t_cells)), (t_sixties_a, .inl (cI, 24, .inl t_sixties))]) [2, 3, 4] rfl) kL_no) rfl hl [.int p3] rfl (Nat.le_of_ble_eq_true rfl) dX6_join_47 ⟨by decide, by decide⟩ ?_
      refine lv_icmp_le (tgt := 56) hx hb dX6_join_50 (by decide) (fun c5 => ?_) (fun c5 => ?_)
      · replace h := md_t c5 h
        refine lv_iload_n hx hb dX6_join_56 rfl (lv_at hl 5 rfl) ?_
        refine lv_aload hx hb dX6_join_57 (lv_at hl 0 rfl) ?_
        obtain ⟨u6, hu6, h⟩ := md_b h
        refine kV C (ctX3_rowCount l  hu6) gX6_join_X3_rowCount rfl kdvX3_rowCount ⟨rfl, rfl⟩ ⟨by decide, by decide⟩ kW_blind (va_recv hK hP (ci := 1) (q0 := 5) rfl rfl) (kW_use hK (hP.sub (ws' := [(uo, .inr (1, [.ref u_cells_a, .ref u_sixties_a, .int u_rows])), (u_cells_a, .inl (cI, 24, .inl u_cells)), (u_sixties_a, .inl (cI, 24, .inl u_sixties))]) [5, 6, 7] rfl) kL_no) rfl hl [.int p3] rfl (Nat.le_of_ble_eq_true rfl) dX6_join_59 ⟨by decide, by decide⟩ ?_
        refine lv_iadd hx hb dX6_join_62 ?_
        refine lv_bipush (v := 8) hx hb dX6_join_63 (by decide) ?_
        refine lv_icmp_le (tgt := 71) hx hb dX6_join_65 (by decide) (fun c7 => ?_) (fun c7 => ?_)
        · replace h := md_t c7 h
          refine lv_aload hx hb dX6_join_71 (lv_at hl 1 rfl) ?_
          refine lv_aload hx hb dX6_join_73 (lv_at hl 0 rfl) ?_
          refine lv_iload_n hx hb dX6_join_75 rfl (lv_at hl 5 rfl) ?_
          obtain ⟨u8, hu8, h⟩ := md_b h
          refine kV C (ctX3_fits l  hu8) gX6_join_X3_fits rfl kdvX3_fits ⟨rfl, rfl⟩ ⟨by decide, by decide⟩ kW_blind (va_recv hK hP (ci := 1) (q0 := 2) rfl rfl) (kW_use hK (hP.sub (ws' := [(to, .inr (1, [.ref t_cells_a, .ref t_sixties_a, .int t_rows])), (t_cells_a, .inl (cI, 24, .inl t_cells)), (t_sixties_a, .inl (cI, 24, .inl t_sixties)), (uo, .inr (1, [.ref u_cells_a, .ref u_sixties_a, .int u_rows])), (u_cells_a, .inl (cI, 24, .inl u_cells)), (u_sixties_a, .inl (cI, 24, .inl u_sixties))]) [2, 3, 4, 5, 6, 7] rfl) kL_no) rfl hl [] rfl (Nat.le_of_ble_eq_true rfl) dX6_join_76 ⟨by decide, by decide⟩ ?_
          refine lv_if_ne (tgt := 85) hx hb dX6_join_79 (by decide) (fun c9 => ?_) (fun c9 => ?_)
          · replace h := md_f c9 h
            refine lv_aload hx hb dX6_join_85 (lv_at hl 1 rfl) ?_
            refine lv_aload hx hb dX6_join_87 (lv_at hl 0 rfl) ?_
            refine lv_iload_n hx hb dX6_join_89 rfl (lv_at hl 5 rfl) ?_
            obtain ⟨u10, hu10, h⟩ := md_b h
            refine kVx C (ctX3_take l (nd_sub hnd [2, 3, 4, 5, 6, 7] (by decide) rfl) hu10) gX6_join_X3_take rfl kdvX3_take ⟨rfl, rfl⟩ ⟨by decide, by decide⟩ kW_blind (va_recv hK hP (ci := 1) (q0 := 2) rfl rfl) (kW_use hK (hP.sub (ws' := [(to, .inr (1, [.ref t_cells_a, .ref t_sixties_a, .int t_rows])), (t_cells_a, .inl (cI, 24, .inl t_cells)), (t_sixties_a, .inl (cI, 24, .inl t_sixties)), (uo, .inr (1, [.ref u_cells_a, .ref u_sixties_a, .int u_rows])), (u_cells_a, .inl (cI, 24, .inl u_cells)), (u_sixties_a, .inl (cI, 24, .inl u_sixties))]) [2, 3, 4, 5, 6, 7] rfl) kL_no) rfl hl [] rfl (Nat.le_of_ble_eq_true rfl) dX6_join_90 ⟨by decide, by decide⟩ hS (mem_sub [2, 3, 4, 5, 6, 7] rfl) (fun H1 locs hP1 hk1 hS => ?_)
            replace hP : va_P D vwCl [(xo, .inr (3, [.ref wo, .ref x_tablets_a, .ref so, .ref x_steps_a, .int x_stepCount])), (x_tablets_a, .inl (cT, 4, .inr (.inr (.inr (.inr x_refs))))), (to, .inr (1, [.ref t_cells_a, .ref t_sixties_a, .int u10.2.2])), (t_cells_a, .inl (cI, 24, .inl u10.1)), (t_sixties_a, .inl (cI, 24, .inl u10.2.1)), (uo, .inr (1, [.ref u_cells_a, .ref u_sixties_a, .int u_rows])), (u_cells_a, .inl (cI, 24, .inl u_cells)), (u_sixties_a, .inl (cI, 24, .inl u_sixties))] H1 := kjoin hnd rfl hP hP1 hk1 [2, 3, 4, 5, 6, 7] rfl [(false, 0), (false, 1), (true, 0), (true, 1), (true, 2), (true, 3), (true, 4), (true, 5)] rfl rfl
            clear hP1 hk1
            generalize H1 = H at hP hS ⊢
            refine lv_aload hx hb dX6_join_93 (lv_at hl 1 rfl) ?_
            obtain ⟨u11, hu11, h⟩ := md_b h
            refine kV C (ctX3_rowCount l  hu11) gX6_join_X3_rowCount rfl kdvX3_rowCount ⟨rfl, rfl⟩ ⟨by decide, by decide⟩ kW_blind (va_recv hK hP (ci := 1) (q0 := 2) rfl rfl) (kW_use hK (hP.sub (ws' := [(to, .inr (1, [.ref t_cells_a, .ref t_sixties_a, .int u10.2.2])), (t_cells_a, .inl (cI, 24, .inl u10.1)), (t_sixties_a, .inl (cI, 24, .inl u10.2.1))]) [2, 3, 4] rfl) kL_no) rfl hl [] rfl (Nat.le_of_ble_eq_true rfl) dX6_join_95 ⟨by decide, by decide⟩ ?_
            exact hQ u11 u10.1 u10.2.1 u10.2.2 H locs 98 ls h hP hS dX6_join_98
          replace h := md_t c9 h
          refine lv_bipush (v := -5) hx hb dX6_join_82 (by decide) ?_
          exact hQ (-5 : Int32) t_cells t_sixties t_rows H locs 84 ls h hP hS dX6_join_84
        replace h := md_f c7 h
        refine lv_bipush (v := -4) hx hb dX6_join_68 (by decide) ?_
        exact hQ (-4 : Int32) t_cells t_sixties t_rows H locs 70 ls h hP hS dX6_join_70
      replace h := md_f c5 h
      refine lv_bipush (v := -3) hx hb dX6_join_53 (by decide) ?_
      exact hQ (-3 : Int32) t_cells t_sixties t_rows H locs 55 ls h hP hS dX6_join_55
    replace h := md_f c3 h
    refine lv_bipush (v := -2) hx hb dX6_join_41 (by decide) ?_
    exact hQ (-2 : Int32) t_cells t_sixties t_rows H locs 43 ls h hP hS dX6_join_43
  replace h := md_t c1 h
  refine lv_iconst (v := -1) hx hb dX6_join_29 (by decide) ?_
  exact hQ (-1 : Int32) t_cells t_sixties t_rows H locs 30 ls h hP hS dX6_join_30
set_option maxHeartbeats 4000000 in
theorem ctX6_join_i (l : Launch) {D : va_G} {cI cT : ClassId} {xo wo x_tablets_a so x_steps_a to t_cells_a t_sixties_a uo u_cells_a u_sixties_a : Nat} {x_refs : Nat → Option Nat} {x_stepCount : Int32} {t_cells : Nat → Int32} {t_sixties : Nat → Int32} {t_rows : Int32} {u_cells : Nat → Int32} {u_sixties : Nat → Int32} {u_rows : Int32} {p1 : Int32} {p2 : Int32} {p3 : Int32} {res : (Int32 × (Nat → Int32) × (Nat → Int32) × Int32)} (hnd : ([xo, x_tablets_a, to, t_cells_a, t_sixties_a, uo, u_cells_a, u_sixties_a] : List Nat).Nodup) (hti0 : vp_in p1 4) (htr0 : x_refs (Int32.toNatClampNeg p1) = some to) (hti1 : vp_in p2 4) (htr1 : x_refs (Int32.toNatClampNeg p2) = some uo) (hm : mX6_join_i t_cells t_sixties t_rows u_cells u_sixties u_rows p1 p2 p3 = some res) : Met l yX6_join wsX6_join rmX6_join_i (va_Pc [.ref xo, .int p1, .int p2, .int p3] (kW D cI cT [(xo, .inr (3, [.ref wo, .ref x_tablets_a, .ref so, .ref x_steps_a, .int x_stepCount])), (x_tablets_a, .inl (cT, 4, .inr (.inr (.inr (.inr x_refs))))), (to, .inr (1, [.ref t_cells_a, .ref t_sixties_a, .int t_rows])), (t_cells_a, .inl (cI, 24, .inl t_cells)), (t_sixties_a, .inl (cI, 24, .inl t_sixties)), (uo, .inr (1, [.ref u_cells_a, .ref u_sixties_a, .int u_rows])), (u_cells_a, .inl (cI, 24, .inl u_cells)), (u_sixties_a, .inl (cI, 24, .inl u_sixties))] none (fun q => q ∈ ([xo, x_tablets_a, to, t_cells_a, t_sixties_a, uo, u_cells_a, u_sixties_a] : List Nat)))) (kX (some (.int res.1)) D [(xo, .inr (3, [.ref wo, .ref x_tablets_a, .ref so, .ref x_steps_a, .int x_stepCount])), (x_tablets_a, .inl (cT, 4, .inr (.inr (.inr (.inr x_refs))))), (to, .inr (1, [.ref t_cells_a, .ref t_sixties_a, .int res.2.2.2])), (t_cells_a, .inl (cI, 24, .inl res.2.1)), (t_sixties_a, .inl (cI, 24, .inl res.2.2.1)), (uo, .inr (1, [.ref u_cells_a, .ref u_sixties_a, .int u_rows])), (u_cells_a, .inl (cI, 24, .inl u_cells)), (u_sixties_a, .inl (cI, 24, .inl u_sixties))] (fun q => q ∈ ([xo, x_tablets_a, to, t_cells_a, t_sixties_a, uo, u_cells_a, u_sixties_a] : List Nat))) 0 0 (fun q => q ∈ ([xo, x_tablets_a, to, t_cells_a, t_sixties_a, uo, u_cells_a, u_sixties_a] : List Nat)) :=
  km (by decide) rfl (Nat.le_of_ble_eq_true rfl) (fun p e s m below meth c ls C hB hl => bX6_join_i C p1 p2 p3 hB.1 hnd hti0 htr0 hti1 htr1 x_stepCount t_cells t_sixties t_rows u_cells u_sixties u_rows res (fun v t_cells1 t_sixties1 t_rows1 H locs pc ls h hP hS hd => by obtain rfl := Option.some.inj h; exact kx_i C hP hS hd) hm s.heap [] hB.2.1 va_S.rf ls hl)
abbrev rmX6_join_io : Room := { frames := 1, cells := 0, slots := 0, locals := 21 }
def mX6_join_io (p1 : Int32) (p2 : Int32) (p3 : Int32) : Option Int32 := (some (-1 : Int32))
set_option maxHeartbeats 4000000 in
set_option maxRecDepth 100000 in
theorem bX6_join_io {p : Program} {l : Launch} {e : Env} {s : State} {m : MethodId} {args : Array Value} {below : List Frame} {meth : Method} {c : Code} {Q : State → Prop} (C : kc p s m args meth c cX6_join 6 RX6 yX6_join.name wsX6_join (some .int)) {D : va_G} {cI cT : ClassId} {xo wo x_tablets_a so x_steps_a to : Nat} {x_refs : Nat → Option Nat} (p1 : Int32) (p2 : Int32) (p3 : Int32) (hK : va_K D vwCl (kTy cI cT) s) (hti0 : vp_in p1 4) (htr0 : x_refs (Int32.toNatClampNeg p1) = some to) (hto1 : ¬ vp_in p2 4) (x_stepCount : Int32) (hP : va_P D vwCl [(xo, .inr (3, [.ref wo, .ref x_tablets_a, .ref so, .ref x_steps_a, .int x_stepCount])), (x_tablets_a, .inl (cT, 4, .inr (.inr (.inr (.inr x_refs)))))] s.heap) (res : Int32) (hQ : ∀ (v : Int32) (pc : Nat) (ls : Array Slot), some v = some res → decode cX6_join pc = .ok (.ireturn, 1) → W p l e rmX6_join_io s m args below meth c s.heap [] 0 0 Q (F0 m pc ls [.int v])) : mX6_join_io p1 p2 p3 = some res → ∀ (ls : Array Slot), lv_has ls 6 [(0, .ref xo), (1, .int p1), (2, .int p2), (3, .int p3)] → W p l e rmX6_join_io s m args below meth c s.heap [] 0 0 Q (F0 m 0 ls []) := by
  intro h ls hl
  have C0 := C
  obtain ⟨hx, hb, hml, hown, hts, hr, hlk, hnm⟩ := C0
  rw [mX6_join_io] at h
  refine lv_aload_n hx hb dX6_join_0 rfl (lv_at hl 0 rfl) ?_
  refine lv_iload_n hx hb dX6_join_1 rfl (lv_at hl 1 rfl) ?_
  refine kV C (ctX6_clayOf_i l hti0 htr0) gX6_join_X6_clayOf rfl kdvX6_clayOf ⟨rfl, rfl⟩ ⟨by decide, by decide⟩ kW_blind (va_recv hK hP (ci := 3) (q0 := 0) rfl rfl) (kW_use hK (hP.sub (ws' := [(xo, .inr (3, [.ref wo, .ref x_tablets_a, .ref so, .ref x_steps_a, .int x_stepCount])), (x_tablets_a, .inl (cT, 4, .inr (.inr (.inr (.inr x_refs)))))]) [0, 1] rfl) kL_no) rfl hl [] rfl (Nat.le_of_ble_eq_true rfl) dX6_join_2 ⟨by decide, by decide⟩ ?_
  refine lv_astore (lv' := [(4, .ref to), (0, .ref xo), (1, .int p1), (2, .int p2), (3, .int p3)]) hx hb dX6_join_5 hl (by decide) rfl (fun ls hl => ?_)
  refine lv_aload_n hx hb dX6_join_7 rfl (lv_at hl 1 rfl) ?_
  refine lv_iload_n hx hb dX6_join_8 rfl (lv_at hl 3 rfl) ?_
  refine kV C (ctX6_clayOf_o l hto1) gX6_join_X6_clayOf rfl kdvX6_clayOf ⟨rfl, rfl⟩ ⟨by decide, by decide⟩ kW_blind (va_recv hK hP (ci := 3) (q0 := 0) rfl rfl) (kW_use hK (hP.sub (ws' := [(xo, .inr (3, [.ref wo, .ref x_tablets_a, .ref so, .ref x_steps_a, .int x_stepCount])), (x_tablets_a, .inl (cT, 4, .inr (.inr (.inr (.inr x_refs)))))]) [0, 1] rfl) kL_no) rfl hl [] rfl (Nat.le_of_ble_eq_true rfl) dX6_join_9 ⟨by decide, by decide⟩ ?_
  refine lv_astoreN (lv' := [(5, .null), (4, .ref to), (0, .ref xo), (1, .int p1), (2, .int p2), (3, .int p3)]) hx hb dX6_join_12 hl (by decide) rfl (fun ls hl => ?_)
  refine lv_aload hx hb dX6_join_14 (lv_at hl 1 rfl) ?_
  refine lv_ifnull hx hb dX6_join_16 ?_
  refine lv_aloadN hx hb dX6_join_19 (lv_at hl 0 rfl) ?_
  refine lv_ifnullN (tgt := 29) hx hb dX6_join_21 (by decide) ?_
  refine lv_iconst (v := -1) hx hb dX6_join_29 (by decide) ?_
  exact hQ (-1 : Int32) 30 ls h dX6_join_30
set_option maxHeartbeats 4000000 in
theorem ctX6_join_io (l : Launch) {D : va_G} {cI cT : ClassId} {xo wo x_tablets_a so x_steps_a to : Nat} {x_refs : Nat → Option Nat} {x_stepCount : Int32} {p1 : Int32} {p2 : Int32} {p3 : Int32} {res : Int32} (hti0 : vp_in p1 4) (htr0 : x_refs (Int32.toNatClampNeg p1) = some to) (hto1 : ¬ vp_in p2 4) (hm : mX6_join_io p1 p2 p3 = some res) : Met l yX6_join wsX6_join rmX6_join_io (va_Pc [.ref xo, .int p1, .int p2, .int p3] (kW D cI cT [(xo, .inr (3, [.ref wo, .ref x_tablets_a, .ref so, .ref x_steps_a, .int x_stepCount])), (x_tablets_a, .inl (cT, 4, .inr (.inr (.inr (.inr x_refs)))))] none (fun _ => False))) (kR (.int res)) 0 0 (fun _ => False) :=
  km (by decide) rfl (Nat.le_of_ble_eq_true rfl) (fun p e s m below meth c ls C hB hl => bX6_join_io C p1 p2 p3 hB.1 hti0 htr0 hto1 x_stepCount hB.2.1 res (fun v pc ls h hd => kr_i C h hd) hm ls hl)
abbrev rmX6_join_oi : Room := { frames := 1, cells := 0, slots := 0, locals := 21 }
def mX6_join_oi (p1 : Int32) (p2 : Int32) (p3 : Int32) : Option Int32 := (some (-1 : Int32))
set_option maxHeartbeats 4000000 in
set_option maxRecDepth 100000 in
theorem bX6_join_oi {p : Program} {l : Launch} {e : Env} {s : State} {m : MethodId} {args : Array Value} {below : List Frame} {meth : Method} {c : Code} {Q : State → Prop} (C : kc p s m args meth c cX6_join 6 RX6 yX6_join.name wsX6_join (some .int)) {D : va_G} {cI cT : ClassId} {xo wo x_tablets_a so x_steps_a uo : Nat} {x_refs : Nat → Option Nat} (p1 : Int32) (p2 : Int32) (p3 : Int32) (hK : va_K D vwCl (kTy cI cT) s) (hto0 : ¬ vp_in p1 4) (hti1 : vp_in p2 4) (htr1 : x_refs (Int32.toNatClampNeg p2) = some uo) (x_stepCount : Int32) (hP : va_P D vwCl [(xo, .inr (3, [.ref wo, .ref x_tablets_a, .ref so, .ref x_steps_a, .int x_stepCount])), (x_tablets_a, .inl (cT, 4, .inr (.inr (.inr (.inr x_refs)))))] s.heap) (res : Int32) (hQ : ∀ (v : Int32) (pc : Nat) (ls : Array Slot), some v = some res → decode cX6_join pc = .ok (.ireturn, 1) → W p l e rmX6_join_oi s m args below meth c s.heap [] 0 0 Q (F0 m pc ls [.int v])) : mX6_join_oi p1 p2 p3 = some res → ∀ (ls : Array Slot), lv_has ls 6 [(0, .ref xo), (1, .int p1), (2, .int p2), (3, .int p3)] → W p l e rmX6_join_oi s m args below meth c s.heap [] 0 0 Q (F0 m 0 ls []) := by
  intro h ls hl
  have C0 := C
  obtain ⟨hx, hb, hml, hown, hts, hr, hlk, hnm⟩ := C0
  rw [mX6_join_oi] at h
  refine lv_aload_n hx hb dX6_join_0 rfl (lv_at hl 0 rfl) ?_
  refine lv_iload_n hx hb dX6_join_1 rfl (lv_at hl 1 rfl) ?_
  refine kV C (ctX6_clayOf_o l hto0) gX6_join_X6_clayOf rfl kdvX6_clayOf ⟨rfl, rfl⟩ ⟨by decide, by decide⟩ kW_blind (va_recv hK hP (ci := 3) (q0 := 0) rfl rfl) (kW_use hK (hP.sub (ws' := [(xo, .inr (3, [.ref wo, .ref x_tablets_a, .ref so, .ref x_steps_a, .int x_stepCount])), (x_tablets_a, .inl (cT, 4, .inr (.inr (.inr (.inr x_refs)))))]) [0, 1] rfl) kL_no) rfl hl [] rfl (Nat.le_of_ble_eq_true rfl) dX6_join_2 ⟨by decide, by decide⟩ ?_
  refine lv_astoreN (lv' := [(4, .null), (0, .ref xo), (1, .int p1), (2, .int p2), (3, .int p3)]) hx hb dX6_join_5 hl (by decide) rfl (fun ls hl => ?_)
  refine lv_aload_n hx hb dX6_join_7 rfl (lv_at hl 1 rfl) ?_
  refine lv_iload_n hx hb dX6_join_8 rfl (lv_at hl 3 rfl) ?_
  refine kV C (ctX6_clayOf_i l hti1 htr1) gX6_join_X6_clayOf rfl kdvX6_clayOf ⟨rfl, rfl⟩ ⟨by decide, by decide⟩ kW_blind (va_recv hK hP (ci := 3) (q0 := 0) rfl rfl) (kW_use hK (hP.sub (ws' := [(xo, .inr (3, [.ref wo, .ref x_tablets_a, .ref so, .ref x_steps_a, .int x_stepCount])), (x_tablets_a, .inl (cT, 4, .inr (.inr (.inr (.inr x_refs)))))]) [0, 1] rfl) kL_no) rfl hl [] rfl (Nat.le_of_ble_eq_true rfl) dX6_join_9 ⟨by decide, by decide⟩ ?_
  refine lv_astore (lv' := [(5, .ref uo), (4, .null), (0, .ref xo), (1, .int p1), (2, .int p2), (3, .int p3)]) hx hb dX6_join_12 hl (by decide) rfl (fun ls hl => ?_)
  refine lv_aloadN hx hb dX6_join_14 (lv_at hl 1 rfl) ?_
  refine lv_ifnullN (tgt := 29) hx hb dX6_join_16 (by decide) ?_
  refine lv_iconst (v := -1) hx hb dX6_join_29 (by decide) ?_
  exact hQ (-1 : Int32) 30 ls h dX6_join_30
set_option maxHeartbeats 4000000 in
theorem ctX6_join_oi (l : Launch) {D : va_G} {cI cT : ClassId} {xo wo x_tablets_a so x_steps_a uo : Nat} {x_refs : Nat → Option Nat} {x_stepCount : Int32} {p1 : Int32} {p2 : Int32} {p3 : Int32} {res : Int32} (hto0 : ¬ vp_in p1 4) (hti1 : vp_in p2 4) (htr1 : x_refs (Int32.toNatClampNeg p2) = some uo) (hm : mX6_join_oi p1 p2 p3 = some res) : Met l yX6_join wsX6_join rmX6_join_oi (va_Pc [.ref xo, .int p1, .int p2, .int p3] (kW D cI cT [(xo, .inr (3, [.ref wo, .ref x_tablets_a, .ref so, .ref x_steps_a, .int x_stepCount])), (x_tablets_a, .inl (cT, 4, .inr (.inr (.inr (.inr x_refs)))))] none (fun _ => False))) (kR (.int res)) 0 0 (fun _ => False) :=
  km (by decide) rfl (Nat.le_of_ble_eq_true rfl) (fun p e s m below meth c ls C hB hl => bX6_join_oi C p1 p2 p3 hB.1 hto0 hti1 htr1 x_stepCount hB.2.1 res (fun v pc ls h hd => kr_i C h hd) hm ls hl)
abbrev rmX6_join_oo : Room := { frames := 1, cells := 0, slots := 0, locals := 21 }
def mX6_join_oo (p1 : Int32) (p2 : Int32) (p3 : Int32) : Option Int32 := (some (-1 : Int32))
set_option maxHeartbeats 4000000 in
set_option maxRecDepth 100000 in
theorem bX6_join_oo {p : Program} {l : Launch} {e : Env} {s : State} {m : MethodId} {args : Array Value} {below : List Frame} {meth : Method} {c : Code} {Q : State → Prop} (C : kc p s m args meth c cX6_join 6 RX6 yX6_join.name wsX6_join (some .int)) {D : va_G} {cI cT : ClassId} {xo wo x_tablets_a so x_steps_a : Nat} {x_refs : Nat → Option Nat} (p1 : Int32) (p2 : Int32) (p3 : Int32) (hK : va_K D vwCl (kTy cI cT) s) (hto0 : ¬ vp_in p1 4) (hto1 : ¬ vp_in p2 4) (x_stepCount : Int32) (hP : va_P D vwCl [(xo, .inr (3, [.ref wo, .ref x_tablets_a, .ref so, .ref x_steps_a, .int x_stepCount])), (x_tablets_a, .inl (cT, 4, .inr (.inr (.inr (.inr x_refs)))))] s.heap) (res : Int32) (hQ : ∀ (v : Int32) (pc : Nat) (ls : Array Slot), some v = some res → decode cX6_join pc = .ok (.ireturn, 1) → W p l e rmX6_join_oo s m args below meth c s.heap [] 0 0 Q (F0 m pc ls [.int v])) : mX6_join_oo p1 p2 p3 = some res → ∀ (ls : Array Slot), lv_has ls 6 [(0, .ref xo), (1, .int p1), (2, .int p2), (3, .int p3)] → W p l e rmX6_join_oo s m args below meth c s.heap [] 0 0 Q (F0 m 0 ls []) := by
  intro h ls hl
  have C0 := C
  obtain ⟨hx, hb, hml, hown, hts, hr, hlk, hnm⟩ := C0
  rw [mX6_join_oo] at h
  refine lv_aload_n hx hb dX6_join_0 rfl (lv_at hl 0 rfl) ?_
  refine lv_iload_n hx hb dX6_join_1 rfl (lv_at hl 1 rfl) ?_
  refine kV C (ctX6_clayOf_o l hto0) gX6_join_X6_clayOf rfl kdvX6_clayOf ⟨rfl, rfl⟩ ⟨by decide, by decide⟩ kW_blind (va_recv hK hP (ci := 3) (q0 := 0) rfl rfl) (kW_use hK (hP.sub (ws' := [(xo, .inr (3, [.ref wo, .ref x_tablets_a, .ref so, .ref x_steps_a, .int x_stepCount])), (x_tablets_a, .inl (cT, 4, .inr (.inr (.inr (.inr x_refs)))))]) [0, 1] rfl) kL_no) rfl hl [] rfl (Nat.le_of_ble_eq_true rfl) dX6_join_2 ⟨by decide, by decide⟩ ?_
  refine lv_astoreN (lv' := [(4, .null), (0, .ref xo), (1, .int p1), (2, .int p2), (3, .int p3)]) hx hb dX6_join_5 hl (by decide) rfl (fun ls hl => ?_)
  refine lv_aload_n hx hb dX6_join_7 rfl (lv_at hl 1 rfl) ?_
  refine lv_iload_n hx hb dX6_join_8 rfl (lv_at hl 3 rfl) ?_
  refine kV C (ctX6_clayOf_o l hto1) gX6_join_X6_clayOf rfl kdvX6_clayOf ⟨rfl, rfl⟩ ⟨by decide, by decide⟩ kW_blind (va_recv hK hP (ci := 3) (q0 := 0) rfl rfl) (kW_use hK (hP.sub (ws' := [(xo, .inr (3, [.ref wo, .ref x_tablets_a, .ref so, .ref x_steps_a, .int x_stepCount])), (x_tablets_a, .inl (cT, 4, .inr (.inr (.inr (.inr x_refs)))))]) [0, 1] rfl) kL_no) rfl hl [] rfl (Nat.le_of_ble_eq_true rfl) dX6_join_9 ⟨by decide, by decide⟩ ?_
  refine lv_astoreN (lv' := [(5, .null), (4, .null), (0, .ref xo), (1, .int p1), (2, .int p2), (3, .int p3)]) hx hb dX6_join_12 hl (by decide) rfl (fun ls hl => ?_)
  refine lv_aloadN hx hb dX6_join_14 (lv_at hl 1 rfl) ?_
  refine lv_ifnullN (tgt := 29) hx hb dX6_join_16 (by decide) ?_
  refine lv_iconst (v := -1) hx hb dX6_join_29 (by decide) ?_
  exact hQ (-1 : Int32) 30 ls h dX6_join_30
set_option maxHeartbeats 4000000 in
theorem ctX6_join_oo (l : Launch) {D : va_G} {cI cT : ClassId} {xo wo x_tablets_a so x_steps_a : Nat} {x_refs : Nat → Option Nat} {x_stepCount : Int32} {p1 : Int32} {p2 : Int32} {p3 : Int32} {res : Int32} (hto0 : ¬ vp_in p1 4) (hto1 : ¬ vp_in p2 4) (hm : mX6_join_oo p1 p2 p3 = some res) : Met l yX6_join wsX6_join rmX6_join_oo (va_Pc [.ref xo, .int p1, .int p2, .int p3] (kW D cI cT [(xo, .inr (3, [.ref wo, .ref x_tablets_a, .ref so, .ref x_steps_a, .int x_stepCount])), (x_tablets_a, .inl (cT, 4, .inr (.inr (.inr (.inr x_refs)))))] none (fun _ => False))) (kR (.int res)) 0 0 (fun _ => False) :=
  km (by decide) rfl (Nat.le_of_ble_eq_true rfl) (fun p e s m below meth c ls C hB hl => bX6_join_oo C p1 p2 p3 hB.1 hto0 hto1 x_stepCount hB.2.1 res (fun v pc ls h hd => kr_i C h hd) hm ls hl)
abbrev rmX6_join_e : Room := { frames := 1, cells := 0, slots := 0, locals := 21 }
def mX6_join_e (p1 : Int32) (p2 : Int32) (p3 : Int32) : Option Int32 := (some (-1 : Int32))
set_option maxHeartbeats 4000000 in
set_option maxRecDepth 100000 in
theorem bX6_join_e {p : Program} {l : Launch} {e : Env} {s : State} {m : MethodId} {args : Array Value} {below : List Frame} {meth : Method} {c : Code} {Q : State → Prop} (C : kc p s m args meth c cX6_join 6 RX6 yX6_join.name wsX6_join (some .int)) {D : va_G} {cI cT : ClassId} {xo wo x_tablets_a so x_steps_a to : Nat} {x_refs : Nat → Option Nat} (p1 : Int32) (p2 : Int32) (p3 : Int32) (hK : va_K D vwCl (kTy cI cT) s) (hti0 : vp_in p1 4) (htr0 : x_refs (Int32.toNatClampNeg p1) = some to) (hti1 : vp_in p2 4) (htr1 : x_refs (Int32.toNatClampNeg p2) = some to) (hpe : p1 = p2) (x_stepCount : Int32) (hP : va_P D vwCl [(xo, .inr (3, [.ref wo, .ref x_tablets_a, .ref so, .ref x_steps_a, .int x_stepCount])), (x_tablets_a, .inl (cT, 4, .inr (.inr (.inr (.inr x_refs)))))] s.heap) (res : Int32) (hQ : ∀ (v : Int32) (pc : Nat) (ls : Array Slot), some v = some res → decode cX6_join pc = .ok (.ireturn, 1) → W p l e rmX6_join_e s m args below meth c s.heap [] 0 0 Q (F0 m pc ls [.int v])) : mX6_join_e p1 p2 p3 = some res → ∀ (ls : Array Slot), lv_has ls 6 [(0, .ref xo), (1, .int p1), (2, .int p2), (3, .int p3)] → W p l e rmX6_join_e s m args below meth c s.heap [] 0 0 Q (F0 m 0 ls []) := by
  intro h ls hl
  have C0 := C
  obtain ⟨hx, hb, hml, hown, hts, hr, hlk, hnm⟩ := C0
  rw [mX6_join_e] at h
  refine lv_aload_n hx hb dX6_join_0 rfl (lv_at hl 0 rfl) ?_
  refine lv_iload_n hx hb dX6_join_1 rfl (lv_at hl 1 rfl) ?_
  refine kV C (ctX6_clayOf_i l hti0 htr0) gX6_join_X6_clayOf rfl kdvX6_clayOf ⟨rfl, rfl⟩ ⟨by decide, by decide⟩ kW_blind (va_recv hK hP (ci := 3) (q0 := 0) rfl rfl) (kW_use hK (hP.sub (ws' := [(xo, .inr (3, [.ref wo, .ref x_tablets_a, .ref so, .ref x_steps_a, .int x_stepCount])), (x_tablets_a, .inl (cT, 4, .inr (.inr (.inr (.inr x_refs)))))]) [0, 1] rfl) kL_no) rfl hl [] rfl (Nat.le_of_ble_eq_true rfl) dX6_join_2 ⟨by decide, by decide⟩ ?_
  refine lv_astore (lv' := [(4, .ref to), (0, .ref xo), (1, .int p1), (2, .int p2), (3, .int p3)]) hx hb dX6_join_5 hl (by decide) rfl (fun ls hl => ?_)
  refine lv_aload_n hx hb dX6_join_7 rfl (lv_at hl 1 rfl) ?_
  refine lv_iload_n hx hb dX6_join_8 rfl (lv_at hl 3 rfl) ?_
  refine kV C (ctX6_clayOf_i l hti1 htr1) gX6_join_X6_clayOf rfl kdvX6_clayOf ⟨rfl, rfl⟩ ⟨by decide, by decide⟩ kW_blind (va_recv hK hP (ci := 3) (q0 := 0) rfl rfl) (kW_use hK (hP.sub (ws' := [(xo, .inr (3, [.ref wo, .ref x_tablets_a, .ref so, .ref x_steps_a, .int x_stepCount])), (x_tablets_a, .inl (cT, 4, .inr (.inr (.inr (.inr x_refs)))))]) [0, 1] rfl) kL_no) rfl hl [] rfl (Nat.le_of_ble_eq_true rfl) dX6_join_9 ⟨by decide, by decide⟩ ?_
  refine lv_astore (lv' := [(5, .ref to), (4, .ref to), (0, .ref xo), (1, .int p1), (2, .int p2), (3, .int p3)]) hx hb dX6_join_12 hl (by decide) rfl (fun ls hl => ?_)
  refine lv_aload hx hb dX6_join_14 (lv_at hl 1 rfl) ?_
  refine lv_ifnull hx hb dX6_join_16 ?_
  refine lv_aload hx hb dX6_join_19 (lv_at hl 0 rfl) ?_
  refine lv_ifnull hx hb dX6_join_21 ?_
  refine lv_iload_n hx hb dX6_join_24 rfl (lv_at hl 3 rfl) ?_
  refine lv_iload_n hx hb dX6_join_25 rfl (lv_at hl 4 rfl) ?_
  refine lv_icmp_ne (tgt := 31) hx hb dX6_join_26 (by decide) (fun c1 => absurd hpe c1) (fun c1 => ?_)
  refine lv_iconst (v := -1) hx hb dX6_join_29 (by decide) ?_
  exact hQ (-1 : Int32) 30 ls h dX6_join_30
set_option maxHeartbeats 4000000 in
theorem ctX6_join_e (l : Launch) {D : va_G} {cI cT : ClassId} {xo wo x_tablets_a so x_steps_a to : Nat} {x_refs : Nat → Option Nat} {x_stepCount : Int32} {p1 : Int32} {p2 : Int32} {p3 : Int32} {res : Int32} (hti0 : vp_in p1 4) (htr0 : x_refs (Int32.toNatClampNeg p1) = some to) (hti1 : vp_in p2 4) (htr1 : x_refs (Int32.toNatClampNeg p2) = some to) (hpe : p1 = p2) (hm : mX6_join_e p1 p2 p3 = some res) : Met l yX6_join wsX6_join rmX6_join_e (va_Pc [.ref xo, .int p1, .int p2, .int p3] (kW D cI cT [(xo, .inr (3, [.ref wo, .ref x_tablets_a, .ref so, .ref x_steps_a, .int x_stepCount])), (x_tablets_a, .inl (cT, 4, .inr (.inr (.inr (.inr x_refs)))))] none (fun _ => False))) (kR (.int res)) 0 0 (fun _ => False) :=
  km (by decide) rfl (Nat.le_of_ble_eq_true rfl) (fun p e s m below meth c ls C hB hl => bX6_join_e C p1 p2 p3 hB.1 hti0 htr0 hti1 htr1 hpe x_stepCount hB.2.1 res (fun v pc ls h hd => kr_i C h hd) hm ls hl)
theorem wm_X6_told_i_0 : Cond.fieldLink RX6 27 "SixtyTablet" "stepCount" "I" ∈ wsX6_told := by decide +kernel
theorem wm_X6_told_i_1 : Cond.fieldLink RX6 10 "SixtyTablet" "working" "LSixtyTablet$Working;" ∈ wsX6_told := by decide +kernel
theorem wi_X6_told_i_X6 : ∀ w ∈ wsX60, w ∈ wsX6_told := by decide +kernel
theorem kdvX6_told : yX6_told.cls = RX6 ∧ yX6_told.cls ≠ "java/lang/invoke/MethodHandle" ∧ yX6_told.cls ≠ "java/lang/invoke/VarHandle" ∧ (parseMethodDescriptor yX6_told.desc).map (fun d => d.parameters.length) = some 1 := by decide +kernel
abbrev rmX6_told_i : Room := { frames := 1, cells := 0, slots := 0, locals := 22 }
def mX6_told_i (x_stepCount : Int32) (w_lines : Int32) (t_cells : Nat → Int32) (t_rows : Int32) (p1 : Int32) : Option Int32 := (if p1 < 0 then (some (-2 : Int32)) else (if p1 < (10 : Int32) then (if p1 = 0 then (Option.bind (mX5_lineCount w_lines) (fun u8 => (some u8))) else (if p1 = (1 : Int32) then (some x_stepCount) else (if (6 : Int32) ≤ p1 then (Option.bind (mX3_brokenCells t_cells t_rows) (fun u6 => (some u6))) else (Option.bind (mX3_rowCount t_rows) (fun u7 => (some u7)))))) else (some (-2 : Int32))))
set_option maxHeartbeats 4000000 in
set_option maxRecDepth 100000 in
theorem bX6_told_i {p : Program} {l : Launch} {e : Env} {s : State} {m : MethodId} {args : Array Value} {below : List Frame} {meth : Method} {c : Code} {Q : State → Prop} (C : kc p s m args meth c cX6_told 3 RX6 yX6_told.name wsX6_told (some .int)) {D : va_G} {cI cT : ClassId} {xo wo x_tablets_a so x_steps_a w_ofX_a w_ofY_a w_places_a to t_cells_a t_sixties_a : Nat} {x_refs : Nat → Option Nat} (p1 : Int32) (hK : va_K D vwCl (kTy cI cT) s) (hti0 : vp_in ((p1 - (2 : Int32)) - (p1 - (2 : Int32)) / (4 : Int32) * (4 : Int32)) 4) (htr0 : x_refs (Int32.toNatClampNeg ((p1 - (2 : Int32)) - (p1 - (2 : Int32)) / (4 : Int32) * (4 : Int32))) = some to) (x_stepCount : Int32) (w_ofX : Nat → Int32) (w_ofY : Nat → Int32) (w_places : Nat → Int32) (w_lines : Int32) (t_cells : Nat → Int32) (t_sixties : Nat → Int32) (t_rows : Int32) (hP : va_P D vwCl [(xo, .inr (3, [.ref wo, .ref x_tablets_a, .ref so, .ref x_steps_a, .int x_stepCount])), (x_tablets_a, .inl (cT, 4, .inr (.inr (.inr (.inr x_refs))))), (wo, .inr (2, [.ref w_ofX_a, .ref w_ofY_a, .ref w_places_a, .int w_lines])), (w_ofX_a, .inl (cI, 16, .inl w_ofX)), (w_ofY_a, .inl (cI, 16, .inl w_ofY)), (w_places_a, .inl (cI, 16, .inl w_places)), (to, .inr (1, [.ref t_cells_a, .ref t_sixties_a, .int t_rows])), (t_cells_a, .inl (cI, 24, .inl t_cells)), (t_sixties_a, .inl (cI, 24, .inl t_sixties))] s.heap) (res : Int32) (hQ : ∀ (v : Int32) (pc : Nat) (ls : Array Slot), some v = some res → decode cX6_told pc = .ok (.ireturn, 1) → W p l e rmX6_told_i s m args below meth c s.heap [] 0 0 Q (F0 m pc ls [.int v])) : mX6_told_i x_stepCount w_lines t_cells t_rows p1 = some res → ∀ (ls : Array Slot), lv_has ls 3 [(0, .ref xo), (1, .int p1)] → W p l e rmX6_told_i s m args below meth c s.heap [] 0 0 Q (F0 m 0 ls []) := by
  intro h ls hl
  have C0 := C
  obtain ⟨hx, hb, hml, hown, hts, hr, hlk, hnm⟩ := C0
  rw [mX6_told_i] at h
  refine lv_iload_n hx hb dX6_told_0 rfl (lv_at hl 1 rfl) ?_
  refine lv_if_lt (tgt := 10) hx hb dX6_told_1 (by decide) (fun c1 => ?_) (fun c1 => ?_)
  · replace h := md_t c1 h
    refine lv_bipush (v := -2) hx hb dX6_told_10 (by decide) ?_
    exact hQ (-2 : Int32) 12 ls h dX6_told_12
  replace h := md_f c1 h
  refine lv_iload_n hx hb dX6_told_4 rfl (lv_at hl 1 rfl) ?_
  refine lv_bipush (v := 10) hx hb dX6_told_5 (by decide) ?_
  refine lv_icmp_lt (tgt := 13) hx hb dX6_told_7 (by decide) (fun c2 => ?_) (fun c2 => ?_)
  · replace h := md_t c2 h
    refine lv_iload_n hx hb dX6_told_13 rfl (lv_at hl 1 rfl) ?_
    refine lv_if_ne (tgt := 25) hx hb dX6_told_14 (by decide) (fun c3 => ?_) (fun c3 => ?_)
    · replace h := md_f c3 h
      refine lv_iload_n hx hb dX6_told_25 rfl (lv_at hl 1 rfl) ?_
      refine lv_iconst (v := 1) hx hb dX6_told_26 (by decide) ?_
      refine lv_icmp_ne (tgt := 35) hx hb dX6_told_27 (by decide) (fun c4 => ?_) (fun c4 => ?_)
      · replace h := md_f c4 h
        refine lv_aload_n hx hb dX6_told_35 rfl (lv_at hl 0 rfl) ?_
        refine lv_iload_n hx hb dX6_told_36 rfl (lv_at hl 1 rfl) ?_
        refine lv_iconst (v := 2) hx hb dX6_told_37 (by decide) ?_
        refine lv_isub hx hb dX6_told_38 ?_
        refine lv_iconst (v := 4) hx hb dX6_told_39 (by decide) ?_
        refine lv_irem hx hb dX6_told_40 (by decide) ?_
        refine kV C (ctX6_clayOf_i l hti0 htr0) gX6_told_X6_clayOf rfl kdvX6_clayOf ⟨rfl, rfl⟩ ⟨by decide, by decide⟩ kW_blind (va_recv hK hP (ci := 3) (q0 := 0) rfl rfl) (kW_use hK (hP.sub (ws' := [(xo, .inr (3, [.ref wo, .ref x_tablets_a, .ref so, .ref x_steps_a, .int x_stepCount])), (x_tablets_a, .inl (cT, 4, .inr (.inr (.inr (.inr x_refs)))))]) [0, 1] rfl) kL_no) rfl hl [] rfl (Nat.le_of_ble_eq_true rfl) dX6_told_41 ⟨by decide, by decide⟩ ?_
        refine lv_astore_n (lv' := [(2, .ref to), (0, .ref xo), (1, .int p1)]) hx hb dX6_told_44 rfl hl (by decide) rfl (fun ls hl => ?_)
        refine lv_aload_n hx hb dX6_told_45 rfl (lv_at hl 0 rfl) ?_
        refine lv_ifnonnull (tgt := 52) hx hb dX6_told_46 (by decide) ?_
        refine lv_iload_n hx hb dX6_told_52 rfl (lv_at hl 2 rfl) ?_
        refine lv_bipush (v := 6) hx hb dX6_told_53 (by decide) ?_
        refine lv_icmp_ge (tgt := 65) hx hb dX6_told_55 (by decide) (fun c5 => ?_) (fun c5 => ?_)
        · replace h := md_t c5 h
          refine lv_aload_n hx hb dX6_told_65 rfl (lv_at hl 0 rfl) ?_
          obtain ⟨u6, hu6, h⟩ := md_b h
          refine kV C (ctX3_brokenCells l  hu6) gX6_told_X3_brokenCells rfl kdvX3_brokenCells ⟨rfl, rfl⟩ ⟨by decide, by decide⟩ kW_blind (va_recv hK hP (ci := 1) (q0 := 6) rfl rfl) (kW_use hK (hP.sub (ws' := [(to, .inr (1, [.ref t_cells_a, .ref t_sixties_a, .int t_rows])), (t_cells_a, .inl (cI, 24, .inl t_cells)), (t_sixties_a, .inl (cI, 24, .inl t_sixties))]) [6, 7, 8] rfl) kL_no) rfl hl [] rfl (Nat.le_of_ble_eq_true rfl) dX6_told_66 ⟨by decide, by decide⟩ ?_
          exact hQ u6 69 ls h dX6_told_69
        replace h := md_f c5 h
        refine lv_aload_n hx hb dX6_told_58 rfl (lv_at hl 0 rfl) ?_
        obtain ⟨u7, hu7, h⟩ := md_b h
        refine kV C (ctX3_rowCount l  hu7) gX6_told_X3_rowCount rfl kdvX3_rowCount ⟨rfl, rfl⟩ ⟨by decide, by decide⟩ kW_blind (va_recv hK hP (ci := 1) (q0 := 6) rfl rfl) (kW_use hK (hP.sub (ws' := [(to, .inr (1, [.ref t_cells_a, .ref t_sixties_a, .int t_rows])), (t_cells_a, .inl (cI, 24, .inl t_cells)), (t_sixties_a, .inl (cI, 24, .inl t_sixties))]) [6, 7, 8] rfl) kL_no) rfl hl [] rfl (Nat.le_of_ble_eq_true rfl) dX6_told_59 ⟨by decide, by decide⟩ ?_
        refine lv_goto (tgt := 69) hx hb dX6_told_62 (by decide) ?_
        exact hQ u7 69 ls h dX6_told_69
      replace h := md_t c4 h
      refine lv_aload_n hx hb dX6_told_30 rfl (lv_at hl 0 rfl) ?_
      refine va_get (D := D) (ci := 3) (v := .int x_stepCount) (C := RX6) (T := TX6) (N := 5) hx hb hts wi_X6_told_i_X6 hown hK hP 0 rfl rfl 4 (by decide) (hts _ wm_X6_told_i_0) (fun _ h9 => h9) rfl dX6_told_31 ?_
      exact hQ x_stepCount 34 ls h dX6_told_34
    replace h := md_t c3 h
    refine lv_aload_n hx hb dX6_told_17 rfl (lv_at hl 0 rfl) ?_
    refine va_get (D := D) (ci := 3) (v := .ref wo) (C := RX6) (T := TX6) (N := 5) hx hb hts wi_X6_told_i_X6 hown hK hP 0 rfl rfl 0 (by decide) (hts _ wm_X6_told_i_1) (fun _ h9 => h9) rfl dX6_told_18 ?_
    obtain ⟨u8, hu8, h⟩ := md_b h
    refine kV C (ctX5_lineCount l  hu8) gX6_told_X5_lineCount rfl kdvX5_lineCount ⟨rfl, rfl⟩ ⟨by decide, by decide⟩ kW_blind (va_recv hK hP (ci := 2) (q0 := 2) rfl rfl) (kW_use hK (hP.sub (ws' := [(wo, .inr (2, [.ref w_ofX_a, .ref w_ofY_a, .ref w_places_a, .int w_lines])), (w_ofX_a, .inl (cI, 16, .inl w_ofX)), (w_ofY_a, .inl (cI, 16, .inl w_ofY)), (w_places_a, .inl (cI, 16, .inl w_places))]) [2, 3, 4, 5] rfl) kL_no) rfl hl [] rfl (Nat.le_of_ble_eq_true rfl) dX6_told_21 ⟨by decide, by decide⟩ ?_
    exact hQ u8 24 ls h dX6_told_24
  replace h := md_f c2 h
  refine lv_bipush (v := -2) hx hb dX6_told_10 (by decide) ?_
  exact hQ (-2 : Int32) 12 ls h dX6_told_12
set_option maxHeartbeats 4000000 in
theorem ctX6_told_i (l : Launch) {D : va_G} {cI cT : ClassId} {xo wo x_tablets_a so x_steps_a w_ofX_a w_ofY_a w_places_a to t_cells_a t_sixties_a : Nat} {x_refs : Nat → Option Nat} {x_stepCount : Int32} {w_ofX : Nat → Int32} {w_ofY : Nat → Int32} {w_places : Nat → Int32} {w_lines : Int32} {t_cells : Nat → Int32} {t_sixties : Nat → Int32} {t_rows : Int32} {p1 : Int32} {res : Int32} (hti0 : vp_in ((p1 - (2 : Int32)) - (p1 - (2 : Int32)) / (4 : Int32) * (4 : Int32)) 4) (htr0 : x_refs (Int32.toNatClampNeg ((p1 - (2 : Int32)) - (p1 - (2 : Int32)) / (4 : Int32) * (4 : Int32))) = some to) (hm : mX6_told_i x_stepCount w_lines t_cells t_rows p1 = some res) : Met l yX6_told wsX6_told rmX6_told_i (va_Pc [.ref xo, .int p1] (kW D cI cT [(xo, .inr (3, [.ref wo, .ref x_tablets_a, .ref so, .ref x_steps_a, .int x_stepCount])), (x_tablets_a, .inl (cT, 4, .inr (.inr (.inr (.inr x_refs))))), (wo, .inr (2, [.ref w_ofX_a, .ref w_ofY_a, .ref w_places_a, .int w_lines])), (w_ofX_a, .inl (cI, 16, .inl w_ofX)), (w_ofY_a, .inl (cI, 16, .inl w_ofY)), (w_places_a, .inl (cI, 16, .inl w_places)), (to, .inr (1, [.ref t_cells_a, .ref t_sixties_a, .int t_rows])), (t_cells_a, .inl (cI, 24, .inl t_cells)), (t_sixties_a, .inl (cI, 24, .inl t_sixties))] none (fun _ => False))) (kR (.int res)) 0 0 (fun _ => False) :=
  km (by decide) rfl (Nat.le_of_ble_eq_true rfl) (fun p e s m below meth c ls C hB hl => bX6_told_i C p1 hB.1 hti0 htr0 x_stepCount w_ofX w_ofY w_places w_lines t_cells t_sixties t_rows hB.2.1 res (fun v pc ls h hd => kr_i C h hd) hm ls hl)
theorem wm_X6_told_n_0 : Cond.fieldLink RX6 27 "SixtyTablet" "stepCount" "I" ∈ wsX6_told := by decide +kernel
theorem wm_X6_told_n_1 : Cond.fieldLink RX6 10 "SixtyTablet" "working" "LSixtyTablet$Working;" ∈ wsX6_told := by decide +kernel
theorem wi_X6_told_n_X6 : ∀ w ∈ wsX60, w ∈ wsX6_told := by decide +kernel
abbrev rmX6_told_n : Room := { frames := 1, cells := 0, slots := 0, locals := 20 }
def mX6_told_n (x_stepCount : Int32) (w_lines : Int32) (p1 : Int32) : Option Int32 := (if p1 < 0 then (some (-2 : Int32)) else (if p1 < (10 : Int32) then (if p1 = 0 then (Option.bind (mX5_lineCount w_lines) (fun u5 => (some u5))) else (if p1 = (1 : Int32) then (some x_stepCount) else none)) else (some (-2 : Int32))))
set_option maxHeartbeats 4000000 in
set_option maxRecDepth 100000 in
theorem bX6_told_n {p : Program} {l : Launch} {e : Env} {s : State} {m : MethodId} {args : Array Value} {below : List Frame} {meth : Method} {c : Code} {Q : State → Prop} (C : kc p s m args meth c cX6_told 3 RX6 yX6_told.name wsX6_told (some .int)) {D : va_G} {cI cT : ClassId} {xo wo x_tablets_a so x_steps_a w_ofX_a w_ofY_a w_places_a : Nat} (p1 : Int32) (hK : va_K D vwCl (kTy cI cT) s) (x_stepCount : Int32) (w_ofX : Nat → Int32) (w_ofY : Nat → Int32) (w_places : Nat → Int32) (w_lines : Int32) (hP : va_P D vwCl [(xo, .inr (3, [.ref wo, .ref x_tablets_a, .ref so, .ref x_steps_a, .int x_stepCount])), (wo, .inr (2, [.ref w_ofX_a, .ref w_ofY_a, .ref w_places_a, .int w_lines])), (w_ofX_a, .inl (cI, 16, .inl w_ofX)), (w_ofY_a, .inl (cI, 16, .inl w_ofY)), (w_places_a, .inl (cI, 16, .inl w_places))] s.heap) (res : Int32) (hQ : ∀ (v : Int32) (pc : Nat) (ls : Array Slot), some v = some res → decode cX6_told pc = .ok (.ireturn, 1) → W p l e rmX6_told_n s m args below meth c s.heap [] 0 0 Q (F0 m pc ls [.int v])) : mX6_told_n x_stepCount w_lines p1 = some res → ∀ (ls : Array Slot), lv_has ls 3 [(0, .ref xo), (1, .int p1)] → W p l e rmX6_told_n s m args below meth c s.heap [] 0 0 Q (F0 m 0 ls []) := by
  intro h ls hl
  have C0 := C
  obtain ⟨hx, hb, hml, hown, hts, hr, hlk, hnm⟩ := C0
  rw [mX6_told_n] at h
  refine lv_iload_n hx hb dX6_told_0 rfl (lv_at hl 1 rfl) ?_
  refine lv_if_lt (tgt := 10) hx hb dX6_told_1 (by decide) (fun c1 => ?_) (fun c1 => ?_)
  · replace h := md_t c1 h
    refine lv_bipush (v := -2) hx hb dX6_told_10 (by decide) ?_
    exact hQ (-2 : Int32) 12 ls h dX6_told_12
  replace h := md_f c1 h
  refine lv_iload_n hx hb dX6_told_4 rfl (lv_at hl 1 rfl) ?_
  refine lv_bipush (v := 10) hx hb dX6_told_5 (by decide) ?_
  refine lv_icmp_lt (tgt := 13) hx hb dX6_told_7 (by decide) (fun c2 => ?_) (fun c2 => ?_)
  · replace h := md_t c2 h
    refine lv_iload_n hx hb dX6_told_13 rfl (lv_at hl 1 rfl) ?_
    refine lv_if_ne (tgt := 25) hx hb dX6_told_14 (by decide) (fun c3 => ?_) (fun c3 => ?_)
    · replace h := md_f c3 h
      refine lv_iload_n hx hb dX6_told_25 rfl (lv_at hl 1 rfl) ?_
      refine lv_iconst (v := 1) hx hb dX6_told_26 (by decide) ?_
      refine lv_icmp_ne (tgt := 35) hx hb dX6_told_27 (by decide) (fun c4 => ?_) (fun c4 => ?_)
      · replace h := md_f c4 h
        refine lv_aload_n hx hb dX6_told_35 rfl (lv_at hl 0 rfl) ?_
        refine lv_iload_n hx hb dX6_told_36 rfl (lv_at hl 1 rfl) ?_
        refine lv_iconst (v := 2) hx hb dX6_told_37 (by decide) ?_
        refine lv_isub hx hb dX6_told_38 ?_
        refine lv_iconst (v := 4) hx hb dX6_told_39 (by decide) ?_
        refine lv_irem hx hb dX6_told_40 (by decide) ?_
        exact md_x h
      replace h := md_t c4 h
      refine lv_aload_n hx hb dX6_told_30 rfl (lv_at hl 0 rfl) ?_
      refine va_get (D := D) (ci := 3) (v := .int x_stepCount) (C := RX6) (T := TX6) (N := 5) hx hb hts wi_X6_told_n_X6 hown hK hP 0 rfl rfl 4 (by decide) (hts _ wm_X6_told_n_0) (fun _ h9 => h9) rfl dX6_told_31 ?_
      exact hQ x_stepCount 34 ls h dX6_told_34
    replace h := md_t c3 h
    refine lv_aload_n hx hb dX6_told_17 rfl (lv_at hl 0 rfl) ?_
    refine va_get (D := D) (ci := 3) (v := .ref wo) (C := RX6) (T := TX6) (N := 5) hx hb hts wi_X6_told_n_X6 hown hK hP 0 rfl rfl 0 (by decide) (hts _ wm_X6_told_n_1) (fun _ h9 => h9) rfl dX6_told_18 ?_
    obtain ⟨u5, hu5, h⟩ := md_b h
    refine kV C (ctX5_lineCount l  hu5) gX6_told_X5_lineCount rfl kdvX5_lineCount ⟨rfl, rfl⟩ ⟨by decide, by decide⟩ kW_blind (va_recv hK hP (ci := 2) (q0 := 1) rfl rfl) (kW_use hK (hP.sub (ws' := [(wo, .inr (2, [.ref w_ofX_a, .ref w_ofY_a, .ref w_places_a, .int w_lines])), (w_ofX_a, .inl (cI, 16, .inl w_ofX)), (w_ofY_a, .inl (cI, 16, .inl w_ofY)), (w_places_a, .inl (cI, 16, .inl w_places))]) [1, 2, 3, 4] rfl) kL_no) rfl hl [] rfl (Nat.le_of_ble_eq_true rfl) dX6_told_21 ⟨by decide, by decide⟩ ?_
    exact hQ u5 24 ls h dX6_told_24
  replace h := md_f c2 h
  refine lv_bipush (v := -2) hx hb dX6_told_10 (by decide) ?_
  exact hQ (-2 : Int32) 12 ls h dX6_told_12
set_option maxHeartbeats 4000000 in
theorem ctX6_told_n (l : Launch) {D : va_G} {cI cT : ClassId} {xo wo x_tablets_a so x_steps_a w_ofX_a w_ofY_a w_places_a : Nat} {x_stepCount : Int32} {w_ofX : Nat → Int32} {w_ofY : Nat → Int32} {w_places : Nat → Int32} {w_lines : Int32} {p1 : Int32} {res : Int32} (hm : mX6_told_n x_stepCount w_lines p1 = some res) : Met l yX6_told wsX6_told rmX6_told_n (va_Pc [.ref xo, .int p1] (kW D cI cT [(xo, .inr (3, [.ref wo, .ref x_tablets_a, .ref so, .ref x_steps_a, .int x_stepCount])), (wo, .inr (2, [.ref w_ofX_a, .ref w_ofY_a, .ref w_places_a, .int w_lines])), (w_ofX_a, .inl (cI, 16, .inl w_ofX)), (w_ofY_a, .inl (cI, 16, .inl w_ofY)), (w_places_a, .inl (cI, 16, .inl w_places))] none (fun _ => False))) (kR (.int res)) 0 0 (fun _ => False) :=
  km (by decide) rfl (Nat.le_of_ble_eq_true rfl) (fun p e s m below meth c ls C hB hl => bX6_told_n C p1 hB.1 x_stepCount w_ofX w_ofY w_places w_lines hB.2.1 res (fun v pc ls h hd => kr_i C h hd) hm ls hl)
