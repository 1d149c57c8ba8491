/-! THE CLAIM OUT OF ONE WALK OF THE LAW'S BODY. Your part is whole_start (and what it stands on); all else here is the same for every law, but numbers. -/
def R_law : String := "SixtyTabletLaw"
def lw_P (b : Addr) (xs : List Int32) (args : Array Value) (s : State) : Prop := args = #[.ref b] ∧ s.IntsAt b xs ∧ xs.length ≤ 3072 ∧ (Jvm.Cond.and given_1 narrow_1).before args s = true
def lw_Q (_ : Array Value) (s : State) (o : Outcome) (t : State) : Prop := o = .returned (some (.int 1)) ∧ Framed s o t [] 600000 7302249
def lw_Z (below : List Frame) (a : Array Value) (s : State) : State → Prop := fun t => ∃ o, t.status = .running ∧ Ended t below o ∧ lw_Q a s o t
/-- the law's own end, with 1 on the stack, nothing written that was there before, its room as the claim has it -/
theorem lw_ret {p : Program} {l : Launch} {e : Env} {s : State} {m : MethodId} {below : List Frame} {meth : Method} {c : Code} {b : Nat} (hx : p.tables.exec = Jvm.exec) (hb : c.code = code) (hr : meth.sig.returnType = ret) (hlocks : meth.locks = false) {pc : Nat} {H : Heap} {ls : Array Slot} (hdg : decode code pc = .ok (.ireturn, 1)) : W p l e room_1 s m #[Value.ref b] below meth c H [] 600000 7302249 (lw_Z below #[Value.ref b] s) (F0 m pc ls [.int 1]) := by
  intro T hT X
  obtain ⟨fs, hret, hrun, hended, hW, hframe⟩ := X.leave (v := some (.int 1)) (hlocks := hlocks) (fun h => by rw [hr] at h; cases h)
  have hmeth' : T.vm.method? m = some meth := X.method'
  refine ⟨T.setFrames fs, ?_, .returned (some (.int 1)), hrun, hended, rfl, ⟨_, rfl⟩, hW, hframe⟩
  jvm_step X.here [X.here.top, hx, hb, hdg, hmeth', hr, ret, narrow_b1]
  (try refine ⟨rfl, ?_⟩); (try refine ⟨rfl, ?_⟩)
  first | (intro acts; rw [hret _ acts rfl rfl rfl]) | rw [hret _ _ rfl rfl rfl]
  exact Steps.refl _
/-- what holds at the law's entry: the machine, the code, the tables' words (any of lw_tbl by 'hts w (by decide +kernel)'), the script of L ints xs at the cell b, what the Statement gives of the start (any of its parts by flat_of_before) -/
def lw_At (p : Program) (s : State) (m : MethodId) (meth : Method) (c : Code) (b L : Nat) (xs : Nat → Int32) : Prop :=
  p.tables.exec = Jvm.exec ∧ c.code = code ∧ meth.sig.returnType = ret ∧ c.maxLocals = 4 ∧ s.vm.findClass R_law = some m.cls ∧ (∀ w ∈ lw_tbl, w.before #[Value.ref b] s = true) ∧ va_X b L xs s s.heap ∧ b < s.heap.size ∧ meth.locks = false ∧ (Jvm.Cond.and given_1 narrow_1).before #[Value.ref b] s = true

/-! THE LAW'S WORLD: 24 cells of the class, 10 of the reference -/
def updF {α : Type} (f : Nat → α) (t : Nat) (x : α) : Nat → α := fun u => if u = t then x else f u
theorem updF_s {α : Type} (f : Nat → α) (t : Nat) (x : α) : updF f t x t = x := if_pos rfl
theorem updF_n {α : Type} {f : Nat → α} {t u : Nat} {x : α} (h : u ≠ t) : updF f t x u = f u := if_neg h
abbrev lwAd (A : Nat → Nat) : List Nat := [A 0, A 1, A 2, A 3, A 4, A 5, A 6, A 7, A 8, A 9, A 10, A 11, A 12, A 13, A 14, A 15, A 16, A 17, A 18, A 19, A 20, A 21, A 22, A 23, A 24, A 25, A 26, A 27, A 28, A 29, A 30, A 31, A 32, A 33]
def lwW (cI cT : ClassId) (A : Nat → Nat) (R : Nat → Option Nat) (cnt : Int32) (wX : Nat → Int32) (wY : Nat → Int32) (wP : Nat → Int32) (wl : Int32) (sR : Nat → Int32) (sC : Nat → Int32) (sS : Nat → Int32) (sE : Nat → Int32) (k1 : Int32) (k2 : Int32) (k3 : Int32) (k4 : Int32) (k5 : Int32) (st : Nat → Int32) (tc : Nat → Nat → Int32) (tz : Nat → Nat → Int32) (tr : Nat → Int32) (mw : Int32) (ml : Int32) (mp : Nat → Int32) (mq : Nat → Int32) (mX : Nat → Int32) (mY : Nat → Int32) (ms : Int32) (mst : Nat → Int32) (mr : Nat → Int32) (mc : Nat → Int32) (mo : Nat → Int32) (mu : Nat → Int32) : va_W := [(A 0, .inr (3, [.ref (A 1), .ref (A 11), .ref (A 5), .ref (A 10), .int cnt])), (A 1, .inr (2, [.ref (A 2), .ref (A 3), .ref (A 4), .int wl])), (A 2, .inl (cI, 16, .inl wX)), (A 3, .inl (cI, 16, .inl wY)), (A 4, .inl (cI, 16, .inl wP)), (A 5, .inr (0, [.ref (A 6), .ref (A 7), .ref (A 8), .ref (A 9), .int k1, .int k2, .int k3, .int k4, .int k5])), (A 6, .inl (cI, 24, .inl sR)), (A 7, .inl (cI, 24, .inl sC)), (A 8, .inl (cI, 24, .inl sS)), (A 9, .inl (cI, 24, .inl sE)), (A 10, .inl (cI, 5, .inl st)), (A 11, .inl (cT, 4, .inr (.inr (.inr (.inr R))))), (A 12, .inr (1, [.ref (A 13), .ref (A 14), .int (tr 0)])), (A 13, .inl (cI, 24, .inl (tc 0))), (A 14, .inl (cI, 24, .inl (tz 0))), (A 15, .inr (1, [.ref (A 16), .ref (A 17), .int (tr 1)])), (A 16, .inl (cI, 24, .inl (tc 1))), (A 17, .inl (cI, 24, .inl (tz 1))), (A 18, .inr (1, [.ref (A 19), .ref (A 20), .int (tr 2)])), (A 19, .inl (cI, 24, .inl (tc 2))), (A 20, .inl (cI, 24, .inl (tz 2))), (A 21, .inr (1, [.ref (A 22), .ref (A 23), .int (tr 3)])), (A 22, .inl (cI, 24, .inl (tc 3))), (A 23, .inl (cI, 24, .inl (tz 3))), (A 24, .inr (4, [.int mw, .int ml, .ref (A 25), .ref (A 26), .ref (A 27), .ref (A 28), .int ms, .ref (A 29), .ref (A 30), .ref (A 31), .ref (A 32), .ref (A 33)])), (A 25, .inl (cI, 16, .inl mp)), (A 26, .inl (cI, 16, .inl mq)), (A 27, .inl (cI, 16, .inl mX)), (A 28, .inl (cI, 16, .inl mY)), (A 29, .inl (cI, 5, .inl mst)), (A 30, .inl (cI, 4, .inl mr)), (A 31, .inl (cI, 96, .inl mc)), (A 32, .inl (cI, 29, .inl mo)), (A 33, .inl (cI, 24, .inl mu))]
def lwI (cnt : Int32) (wX : Nat → Int32) (wY : Nat → Int32) (wP : Nat → Int32) (wl : Int32) (sR : Nat → Int32) (sC : Nat → Int32) (sS : Nat → Int32) (sE : Nat → Int32) (k1 : Int32) (k2 : Int32) (k3 : Int32) (k4 : Int32) (k5 : Int32) (st : Nat → Int32) (tc : Nat → Nat → Int32) (tz : Nat → Nat → Int32) (tr : Nat → Int32) (mw : Int32) (ml : Int32) (mp : Nat → Int32) (mq : Nat → Int32) (mX : Nat → Int32) (mY : Nat → Int32) (ms : Int32) (mst : Nat → Int32) (mr : Nat → Int32) (mc : Nat → Int32) (mo : Nat → Int32) (mu : Nat → Int32) : Prop := workRel wX wY wP wl mw ml mp mq mX mY ∧ stepRel st cnt ms mst ∧ (∀ t, t < 4 → tabRel t (tc t) (tz t) (tr t) mr mc) ∧ overRel mo
def lwC (p : Program) (s : State) (m : MethodId) (meth : Method) (c : Code) (b L : Nat) (xs : Nat → Int32) (D : va_G) (cI cT : ClassId) (A : Nat → Nat) (R : Nat → Option Nat) (aL : Nat × Nat) : Prop :=
  kc p s m #[Value.ref b] meth c code 4 RL meth.name wsL_law ret ∧ va_X b L xs s s.heap ∧ b < s.heap.size ∧ va_K D vwCl (kTy cI cT) s ∧ (lwAd A).Nodup ∧ (∀ q ∈ lwAd A, s.heap.size ≤ q) ∧ (∀ t, t < 4 → R t = some (A (12 + 3 * t))) ∧ kLz aL (fun q => s.heap.size ≤ q) s s.heap ∧ L ≤ 3072
abbrev lwG (p : Program) (l : Launch) (e : Env) (s : State) (m : MethodId) (below : List Frame) (meth : Method) (c : Code) (b : Nat) (H : Heap) (locs : List Loc) (pc : Nat) (ls : Array Slot) (st : List Value) : Prop := W p l e room_1 s m #[Value.ref b] below meth c H locs 600000 7302249 (lw_Z below #[Value.ref b] s) (F0 m pc ls st)
abbrev lwS (s : State) (H : Heap) (locs : List Loc) : Prop := va_S (fun q : Nat => s.heap.size ≤ q) s.heap H locs
abbrev lwL (b : Nat) (A : Nat → Nat) (i : Nat) : List (Nat × Value) := [(0, .ref b), (1, .ref (A 0)), (2, .ref (A 24)), (3, .int (nI i))]
/-- behind a case -/
def lwK (p : Program) (l : Launch) (e : Env) (s : State) (m : MethodId) (below : List Frame) (meth : Method) (c : Code) (b : Nat) (D : va_G) (cI cT : ClassId) (A : Nat → Nat) (R : Nat → Option Nat) (ls : Array Slot) : Prop :=
  ∀ (cnt : Int32) (wX : Nat → Int32) (wY : Nat → Int32) (wP : Nat → Int32) (wl : Int32) (sR : Nat → Int32) (sC : Nat → Int32) (sS : Nat → Int32) (sE : Nat → Int32) (k1 : Int32) (k2 : Int32) (k3 : Int32) (k4 : Int32) (k5 : Int32) (st : Nat → Int32) (tc : Nat → Nat → Int32) (tz : Nat → Nat → Int32) (tr : Nat → Int32) (mw : Int32) (ml : Int32) (mp : Nat → Int32) (mq : Nat → Int32) (mX : Nat → Int32) (mY : Nat → Int32) (ms : Int32) (mst : Nat → Int32) (mr : Nat → Int32) (mc : Nat → Int32) (mo : Nat → Int32) (mu : Nat → Int32), lwI cnt wX wY wP wl sR sC sS sE k1 k2 k3 k4 k5 st tc tz tr mw ml mp mq mX mY ms mst mr mc mo mu → ∀ (H : Heap) (locs : List Loc), va_P D vwCl (lwW cI cT A R cnt wX wY wP wl sR sC sS sE k1 k2 k3 k4 k5 st tc tz tr mw ml mp mq mX mY ms mst mr mc mo mu) H → lwS s H locs → lwG p l e s m below meth c b H locs 1627 ls []
def L64 (a b : Int32) : Int64 := (Int32.toInt64 a <<< (Int32.toInt64 32 &&& 63)) ||| (Int32.toInt64 b &&& 4294967295)
theorem wm_L0 : Cond.constantLong RL 13 (4294967295) ∈ wsL_law := by decide +kernel
theorem lw_rm : 600000 ≤ room_1.cells ∧ 7302249 ≤ room_1.slots := ⟨Nat.le_refl _, Nat.le_refl _⟩
section LAWB
variable {p : Program} {l : Launch} {e : Env} {s : State} {m : MethodId} {below : List Frame} {meth : Method} {c : Code} {b L : Nat} {xs : Nat → Int32} {D : va_G} {cI cT : ClassId} {A : Nat → Nat} {R : Nat → Option Nat} {aL : Nat × Nat} {i : Nat} {ls : Array Slot} {H : Heap} {locs : List Loc} {sk : List Value} {pc : Nat}
theorem lw_ldi (C : lwC p s m meth c b L xs D cI cT A R aL) (hi : i + 6 ≤ L) (hl : lv_has ls 4 (lwL b A i)) (hS : lwS s H locs) (j : Nat) (hj : j ≤ 5) {n : Int} (hv : Int32.ofInt n = nI j) (d0 : decode code pc = .ok (.aload_n 0, 1)) (d1 : decode code (pc + 1) = .ok (.iload_n 3, 1)) (d2 : decode code (pc + 2) = .ok (.iconst n, 1)) (d3 : decode code (pc + 3) = .ok (.iadd, 1)) (d4 : decode code (pc + 4) = .ok (.iaload, 1)) (kk : lwG p l e s m below meth c b H locs (pc + 5) ls (.int (xs (i + j)) :: sk)) : lwG p l e s m below meth c b H locs pc ls sk := by
  obtain ⟨⟨hx, hb, -⟩, hX, hbl, -, -, -, -, -, hL⟩ := C
  have hbA : ¬ (fun q : Nat => s.heap.size ≤ q) b := Nat.not_le.mpr hbl
  refine lv_aload_n hx hb d0 rfl (lv_at hl 0 rfl) ?_
  refine lv_iload_n hx hb d1 rfl (lv_at hl 3 rfl) ?_
  refine lv_iconst (v := nI j) hx hb d2 hv ?_
  refine lv_iadd hx hb d3 ?_
  refine va_sld hx hb hX hbl hbA hS (by rw [nI_add]; exact vp_in_nI (by omega) (by omega)) d4 ?_
  rw [nI_add, nI_clamp (by omega)]
  exact kk
theorem lw_ldl (C : lwC p s m meth c b L xs D cI cT A R aL) (hi : i + 6 ≤ L) (hl : lv_has ls 4 (lwL b A i)) (hS : lwS s H locs) (j : Nat) (hj : j + 1 ≤ 5) {n n' : Int} (hv : Int32.ofInt n = nI j) (hv' : Int32.ofInt n' = nI (j + 1)) (d0 : decode code pc = .ok (.aload_n 0, 1)) (d1 : decode code (pc + 1) = .ok (.iload_n 3, 1)) (d2 : decode code (pc + 2) = .ok (.iconst n, 1)) (d3 : decode code (pc + 3) = .ok (.iadd, 1)) (d4 : decode code (pc + 4) = .ok (.iaload, 1)) (d5 : decode code (pc + 5) = .ok (.i2l, 1)) (d6 : decode code (pc + 6) = .ok (.bipush 32, 2)) (d8 : decode code (pc + 8) = .ok (.lshl, 1)) (d9 : decode code (pc + 9) = .ok (.aload_n 0, 1)) (d10 : decode code (pc + 10) = .ok (.iload_n 3, 1)) (d11 : decode code (pc + 11) = .ok (.iconst n', 1)) (d12 : decode code (pc + 12) = .ok (.iadd, 1)) (d13 : decode code (pc + 13) = .ok (.iaload, 1)) (d14 : decode code (pc + 14) = .ok (.i2l, 1)) (d15 : decode code (pc + 15) = .ok (.ldc2_w 13, 3)) (d18 : decode code (pc + 18) = .ok (.land, 1)) (d19 : decode code (pc + 19) = .ok (.lor, 1)) (kk : lwG p l e s m below meth c b H locs (pc + 20) ls (.long (L64 (xs (i + j)) (xs (i + (j + 1)))) :: sk)) : lwG p l e s m below meth c b H locs pc ls sk := by
  have C0 := C
  obtain ⟨⟨hx, hb, -, hown, hts, -⟩, -⟩ := C0
  refine lw_ldi C hi hl hS j (by omega) hv d0 d1 d2 d3 d4 ?_
  refine lv_i2l (v := Int32.toInt64 (xs (i + j))) hx hb d5 rfl ?_
  refine lv_bipush (v := 32) hx hb d6 (by decide) ?_
  refine lv_lshl (v := Int32.toInt64 (xs (i + j)) <<< (Int32.toInt64 32 &&& 63)) hx hb d8 rfl ?_
  refine lw_ldi C hi hl hS (j + 1) hj hv' d9 d10 d11 d12 d13 ?_
  refine lv_i2l (v := Int32.toInt64 (xs (i + (j + 1)))) hx hb d14 rfl ?_
  refine lv_ldc2 hx hb hown (hts _ wm_L0) d15 ?_
  refine lv_land hx hb d18 ?_
  refine lv_lor hx hb d19 ?_
  exact kk
theorem lw_cmpi (C : lwC p s m meth c b L xs D cI cT A R aL) {r : Int32} {off : Int} {tgt : Nat} (d : decode code pc = .ok (.if_icmp .eq off, 3)) (ht : (pc : Int) + off = (tgt : Int)) (kk : lwG p l e s m below meth c b H locs tgt ls []) : lwG p l e s m below meth c b H locs pc ls [.int r, .int r] := by
  obtain ⟨⟨hx, hb, -⟩, -⟩ := C
  exact lv_icmp_eq hx hb d ht (fun _ => kk) (fun q => absurd rfl q)
theorem lw_cmpl (C : lwC p s m meth c b L xs D cI cT A R aL) {r : Int64} {off : Int} {tgt : Nat} (d : decode code pc = .ok (.lcmp, 1)) (d2 : decode code (pc + 1) = .ok (.ifCond .eq off, 3)) (ht : ((pc + 1 : Nat) : Int) + off = (tgt : Int)) (kk : lwG p l e s m below meth c b H locs tgt ls []) : lwG p l e s m below meth c b H locs pc ls [.long r, .long r] := by
  obtain ⟨⟨hx, hb, -⟩, -⟩ := C
  refine W.lcmp hx hb d ?_
  exact lv_if_eq hx hb d2 ht (fun _ => kk) (fun q => absurd ((lg_cmp_eq r r).mpr rfl) q)
theorem lw_in (x : Int32) : (x < 0 ∨ nI 4 ≤ x) ∨ ∃ t, t < 4 ∧ x = nI t := by
  rcases pk_ix x (n := 4) (by decide) with h | h | h
  · exact .inl (.inl h)
  · exact .inl (.inr h)
  · exact .inr h
theorem lw_nin {x : Int32} (h : x < 0 ∨ nI 4 ≤ x) : ¬ vp_in x 4 := fun q => by
  have h2 := vp_in_iff.mp q
  rcases h with h | h
  · rw [Int32.lt_iff_toInt_lt] at h
    have : (0 : Int32).toInt = 0 := by decide
    omega
  · rw [Int32.le_iff_toInt_le, nI_toInt (by decide)] at h
    omega
theorem lw_t4 {t : Nat} (h : t < 4) : t = 0 ∨ t = 1 ∨ t = 2 ∨ t = 3 := by omega
end LAWB
