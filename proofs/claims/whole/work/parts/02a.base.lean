/-! The machine's side, general rows of mine: models are functions with an Option answer (none: an index outside, a divisor 0, no fuel); a method's contract says that it answers as its model does, where the model answers. -/
def kN : Nat := 5000
theorem md_t {α : Type} {c : Prop} [Decidable c] {a b : Option α} {r : Option α} (hc : c) (h : (if c then a else b) = r) : a = r := by rw [if_pos hc] at h; exact h
theorem md_f {α : Type} {c : Prop} [Decidable c] {a b : Option α} {r : Option α} (hc : ¬ c) (h : (if c then a else b) = r) : b = r := by rw [if_neg hc] at h; exact h
theorem md_g {α : Type} {c : Prop} [Decidable c] {k : Option α} {r : α} (h : (if c then none else k) = some r) : ¬ c ∧ k = some r := by
  by_cases hc : c
  · rw [if_pos hc] at h; cases h
  · rw [if_neg hc] at h; exact ⟨hc, h⟩
theorem md_b {α β : Type} {o : Option α} {k : α → Option β} {r : β} (h : Option.bind o k = some r) : ∃ x, o = some x ∧ k x = some r := Option.bind_eq_some_iff.mp h
def md_let {α β : Type} (e : α) (k : α → Option β) : Option β := k e
theorem md_le {α β : Type} {e y : α} {k : α → Option β} {r : Option β} (hy : y = e) (h : md_let e k = r) : k y = r := by subst hy; exact h
def md_jn {α β : Type} (F : α) (k : α → Option β) : Option β := k F
theorem md_jo {α β : Type} {F : α} {k : α → Option β} {r : Option β} (h : md_jn F k = r) : ∃ kJ, kJ = F ∧ k kJ = r := ⟨F, rfl, h⟩
theorem md_z {α : Type} {c : Prop} [Decidable c] {k : Option α} {r : α} (h : (if c then k else none) = some r) : c ∧ k = some r := by
  by_cases hc : c
  · rw [if_pos hc] at h; exact ⟨hc, h⟩
  · rw [if_neg hc] at h; cases h
theorem md_x {α : Type} {r : α} {P : Prop} (h : (none : Option α) = some r) : P := by cases h
/-- what holds in the body of a method -/
def kc (p : Program) (s : State) (m : MethodId) (args : Array Value) (meth : Method) (c : Code) (cc : ByteArray) (nL : Nat) (own nm : String) (ws : List Cond) (rt : Option FieldType) : Prop :=
  p.tables.exec = Jvm.exec ∧ c.code = cc ∧ c.maxLocals = nL ∧ s.vm.findClass own = some m.cls ∧ (∀ w ∈ ws, w.before args s = true) ∧ meth.sig.returnType = rt ∧ meth.locks = false ∧ meth.name = nm
theorem km {l : Launch} {y : MethodName} {ws ws' : List Cond} {rm : Room} {av : List Value} {B : State → Prop} {Qc : Array Value → State → Outcome → State → Prop} {mc ms : Nat} {free : Addr → Prop} {cc : ByteArray} {maxL : Nat} {ret : Option FieldType}
    (hy : plainName y.cls = true) (hw : ws = Cond.code y cc maxL ret :: ws') (hn : (lg_sl av).length ≤ maxL)
    (body : ∀ (p : Program) (e : Env) (s : State) (m : MethodId) (below : List Frame) (meth : Method) (c : Code) (ls : Array Slot), kc p s m av.toArray meth c cc maxL y.cls y.name ws ret → B s → lv_has ls maxL (lv_args 0 av) → W p l e rm s m av.toArray below meth c s.heap [] 0 0 (MQ below Qc av.toArray s mc ms free) (F0 m 0 ls [])) : Met l y ws rm (va_Pc av B) Qc mc ms free := by
  refine Met.ofW (cc := cc) (maxL := maxL) (ret := ret) hy hw ?_
  intro p e s m args below meth c s₁ B0 hml hv
  obtain ⟨rfl, hB⟩ := hv
  have hts := atoms_spec (ws := ws) B0.pre
  have hl := lv_entry av (n := maxL) hn
  rw [lg_entry_eq]
  exact body p e s m below meth c _ ⟨B0.exec, B0.bytes, hml, findClass_of_methodNamed B0.named, hts, B0.returns, B0.notSynchronized, (name_of_methodNamed B0.named B0.method).1⟩ hB hl
/-- the answer of a method that only reads -/
def kR (v : Value) : Array Value → State → Outcome → State → Prop := fun _ st oc t => oc = .returned (some v) ∧ t.heap = st.heap
/-- the answer of a method that writes its world's cells and makes none -/
def kX (v : Option Value) (D : va_G) (cells : va_W) (A : Nat → Prop) : Array Value → State → Outcome → State → Prop := fun _ st oc t => oc = .returned v ∧ va_P D vwCl cells t.heap ∧ va_F A st t
abbrev kTy (cI cT : ClassId) : List (ClassId × FieldType) := [(cI, .int), (cT, .object "SixtyTablet$Tablet")]
def kLst : List Int32 := [2, 3, 4, 5, 6, 8, 9, 10, 12, 15, 16, 18, 20, 24, 25, 27, 30, 32, 36, 40, 45, 48, 50, 54, 64, 72, 75, 80, 81]
def kLf (j : Nat) : Int32 := kLst.getD j 0
def kOst : List Int32 := [30, 20, 15, 12, 10, 450, 400, 6, 5, 4, 225, 200, 3, 150, 144, 8000, 2, 6750, 100, 90, 80, 75, 72, 4000, 3375, 50, 48, 45, 160000]
def kOf (j : Nat) : Int32 := kOst.getD j 0
/-- THE LIST and what its numbers are turned over -/
abbrev kLz (a : Nat × Nat) (A : Nat → Prop) (U : State) (H : Heap) : Prop := (va_Z "SixtyTablet$Turning" "LIST" "[I" (.ref a.1) A U H ∧ va_T .int a.1 29 (fun j => .int (kLf j)) A U H) ∧ (va_Z "SixtyTablet$Turning" "LIST_OVER" "[I" (.ref a.2) A U H ∧ va_T .int a.2 29 (fun j => .int (kOf j)) A U H)
/-- a world: the tables' classes, the cells, and THE LIST where it is asked for -/
def kW (D : va_G) (cI cT : ClassId) (cells : va_W) (aL : Option (Nat × Nat)) (A : Nat → Prop) (U : State) : Prop := va_K D vwCl (kTy cI cT) U ∧ va_P D vwCl cells U.heap ∧ ∀ a, aL = some a → kLz a A U U.heap
theorem kW_blind {D : va_G} {cI cT : ClassId} {cells : va_W} {aL : Option (Nat × Nat)} {A : Nat → Prop} {As : List Value} : FrameBlind (va_Pc As (kW D cI cT cells aL A)) := fun a U g mk q =>
  ⟨q.1, va_K.moved (u := U) (U := U.calling g mk a) (Vm.Alike.refl U.vm) q.2.1, q.2.2.1, fun x hx => ⟨⟨va_Z.moved (u := U) (U := U.calling g mk a) (Vm.Alike.refl U.vm) (q.2.2.2 x hx).1.1, va_T.moved (u := U) (U := U.calling g mk a) (Vm.Alike.refl U.vm) (q.2.2.2 x hx).1.2⟩, ⟨va_Z.moved (u := U) (U := U.calling g mk a) (Vm.Alike.refl U.vm) (q.2.2.2 x hx).2.1, va_T.moved (u := U) (U := U.calling g mk a) (Vm.Alike.refl U.vm) (q.2.2.2 x hx).2.2⟩⟩⟩
theorem kT_blind {As : List Value} : FrameBlind (va_Pc As (fun _ => True)) := fun _ _ _ _ q => ⟨q.1, trivial⟩
theorem kW_use {D : va_G} {cI cT : ClassId} {wc : va_W} {aL : Option (Nat × Nat)} {A : Nat → Prop} {s : State} {H : Heap} (hK : va_K D vwCl (kTy cI cT) s) (hP : va_P D vwCl wc H) (hL : ∀ a, aL = some a → kLz a A s H) : ∀ U : State, U.heap = H → s.WarmedH U.vm → kW D cI cT wc aL A U := fun U hU hW =>
  ⟨va_K.moved hW.alike hK, by rw [hU]; exact hP, fun a ha => by rw [hU]; exact ⟨⟨va_Z.moved hW.alike (hL a ha).1.1, va_T.moved hW.alike (hL a ha).1.2⟩, ⟨va_Z.moved hW.alike (hL a ha).2.1, va_T.moved hW.alike (hL a ha).2.2⟩⟩⟩
theorem kL_no {A : Nat → Prop} {s : State} {H : Heap} : ∀ a, (none : Option (Nat × Nat)) = some a → kLz a A s H := fun _ h => nomatch h
theorem kL_ro {a : Nat × Nat} {A B : Nat → Prop} {s : State} {H : Heap} (h : kLz a A s H) (hAB : ∀ q, B q → A q) : ∀ x, some a = some x → kLz x B s H := fun x hx => by
  cases hx
  exact ⟨⟨va_Z.narrow h.1.1 hAB, va_T.narrow h.1.2 hAB⟩, ⟨va_Z.narrow h.2.1 hAB, va_T.narrow h.2.2 hAB⟩⟩
theorem kL_at {a : Nat × Nat} {A B : Nat → Prop} {s : State} {H : Heap} {locs : List Loc} (h : kLz a A s s.heap) (hS : va_S A s.heap H locs) (hAB : ∀ q, B q → A q) : ∀ x, some a = some x → kLz x B s H := kL_ro ⟨⟨va_Z.kept h.1.1 hS.2.1, va_T.kept h.1.2 hS.2.1⟩, ⟨va_Z.kept h.2.1 hS.2.1, va_T.kept h.2.2 hS.2.1⟩⟩ hAB
theorem kNd {l : List Nat} (h : l.Nodup) {i j a : Nat} (hi : l[i]? = some a) (hj : l[j]? = some a) : i = j := by
  obtain ⟨hi1, e1⟩ := List.getElem?_eq_some_iff.mp hi
  obtain ⟨hj1, e2⟩ := List.getElem?_eq_some_iff.mp hj
  have hp := List.pairwise_iff_getElem.mp h
  rcases Nat.lt_trichotomy i j with q | q | q
  · exact absurd (e1.trans e2.symm) (hp i j hi1 hj1 q)
  · exact q
  · exact absurd (e2.trans e1.symm) (hp j i hj1 hi1 q)
theorem kD {ad : List Nat} {ws : va_W} (hn : ad.Nodup) (h : ws.map Prod.fst = ad) : va_D (fun q => q ∈ ad) ws := by
  subst h
  refine ⟨fun i j p q hi hj e => ?_, fun k q hk => ?_⟩
  · have h1 : (ws.map Prod.fst)[i]? = some p.1 := by rw [List.getElem?_map, hi]; rfl
    have h2 : (ws.map Prod.fst)[j]? = some p.1 := by rw [List.getElem?_map, hj, e]; rfl
    exact kNd hn h1 h2
  · exact List.mem_map.mpr ⟨q, List.mem_of_getElem? hk, rfl⟩
theorem va_P0 {D : va_G} {H : Heap} : va_P D vwCl [] H := fun k q h => by simp at h
theorem mem_sub {ad adc : List Nat} (is : List Nat) (h : is.map (fun i => ad[i]?) = adc.map some) : ∀ q, q ∈ adc → q ∈ ad := fun q hq => by
  have hmm : some q ∈ adc.map some := List.mem_map.mpr ⟨_, hq, rfl⟩
  rw [← h] at hmm
  obtain ⟨i, -, hi⟩ := List.mem_map.mp hmm
  exact List.mem_of_getElem? hi
theorem nd_sub {ad adc : List Nat} (hnd : ad.Nodup) (is : List Nat) (hn : is.Nodup) (h : is.map (fun i => ad[i]?) = adc.map some) : adc.Nodup := by
  refine List.pairwise_iff_getElem.mpr (fun i j hi hj hij e => ?_)
  have e1 : (adc.map some)[i]? = some (some adc[i]) := by rw [List.getElem?_map, List.getElem?_eq_getElem hi]; rfl
  have e2 : (adc.map some)[j]? = some (some adc[j]) := by rw [List.getElem?_map, List.getElem?_eq_getElem hj]; rfl
  rw [← h, List.getElem?_map] at e1 e2
  obtain ⟨a, ha, hae⟩ := Option.map_eq_some_iff.mp e1
  obtain ⟨b, hb, hbe⟩ := Option.map_eq_some_iff.mp e2
  rw [← e] at hbe
  have hab : a = b := kNd hnd hae hbe
  subst hab
  exact absurd (kNd hn ha hb) (Nat.ne_of_lt hij)
/-- behind a call: the callee's cells as they are now, the others as they were -/
theorem kjoin {D : va_G} {ws wc1 ws1 : va_W} {H H1 : Heap} {ad adc : List Nat} (hnd : ad.Nodup) (ha : ws.map Prod.fst = ad) (hP : va_P D vwCl ws H) (hP1 : va_P D vwCl wc1 H1) (hk : ∀ q : Nat, q < H.size → ¬ q ∈ adc → H1[q]? = H[q]?)
    (isC : List Nat) (hC : isC.map (fun i => ad[i]?) = adc.map some) (pm : List (Bool × Nat)) (hpm : pm.map (fun x => match x with | (true, i) => wc1[i]? | (false, i) => ws[i]?) = ws1.map some) (hdis : pm.all (fun x => x.1 || !isC.contains x.2) = true) : va_P D vwCl ws1 H1 := by
  intro k q hq
  have h1 : (ws1.map some)[k]? = some (some q) := by rw [List.getElem?_map, hq]; rfl
  rw [← hpm, List.getElem?_map] at h1
  obtain ⟨⟨b, i⟩, hb, hbi⟩ := Option.map_eq_some_iff.mp h1
  cases b with
  | true => exact hP1 i q hbi
  | false =>
    have hbi : ws[i]? = some q := hbi
    refine (hP i q hbi).kept (hk q.1 ((hP i q hbi).lt) ?_)
    intro hm
    have hx := List.all_eq_true.mp hdis _ (List.mem_of_getElem? hb)
    simp only [Bool.false_or, Bool.not_eq_true', List.contains_eq_mem, decide_eq_false_iff_not] at hx
    have hmm : some q.1 ∈ adc.map some := List.mem_map.mpr ⟨_, hm, rfl⟩
    rw [← hC] at hmm
    obtain ⟨j, hj, hje⟩ := List.mem_map.mp hmm
    have hie : ad[i]? = some q.1 := by rw [← ha, List.getElem?_map, hbi]; rfl
    exact hx (kNd hnd hie hje ▸ hj)
section KK
variable {p : Program} {l : Launch} {e : Env} {R : Room} {s : State} {m : MethodId} {args : Array Value} {below : List Frame} {meth : Method} {c : Code} {H : Heap} {locs : List Loc} {cells slots : Nat} {Q : State → Prop}
variable {cc : ByteArray} {nL : Nat} {own nm : String} {Ts : List Cond} {rt : Option FieldType} {pc : Nat} {ls : Array Slot} {st rest : List Value}
theorem kr_i (C : kc p s m args meth c cc nL own nm Ts (some .int)) {v res : Int32} (h : some v = some res) (hdg : decode cc pc = .ok (.ireturn, 1)) : W p l e R s m args below meth c s.heap [] 0 0 (MQ below (kR (.int res)) args s 0 0 (fun _ => False)) (F0 m pc ls [.int v]) := by
  obtain ⟨hx, hb, -, -, -, hr, hlk, -⟩ := C
  obtain rfl := Option.some.inj h
  exact W.iret hx hb hr (fun t ht _ => ⟨rfl, ht⟩) (fun q hq => by cases hq) hdg (hlocks := hlk)
theorem kr_z (C : kc p s m args meth c cc nL own nm Ts (some .boolean)) {v res : Int32} (hz : v = 0 ∨ v = 1) (h : some v = some res) (hdg : decode cc pc = .ok (.ireturn, 1)) : W p l e R s m args below meth c s.heap [] 0 0 (MQ below (kR (.int res)) args s 0 0 (fun _ => False)) (F0 m pc ls [.int v]) := by
  obtain ⟨hx, hb, -, -, -, hr, hlk, -⟩ := C
  obtain rfl := Option.some.inj h
  exact W.zret hx hb hr (by rcases hz with rfl | rfl <;> decide) (fun t ht _ => ⟨rfl, ht⟩) (fun q hq => by cases hq) hdg (hlocks := hlk)
theorem kr_l (C : kc p s m args meth c cc nL own nm Ts (some .long)) {v res : Int64} (h : some v = some res) (hdg : decode cc pc = .ok (.lreturn, 1)) : W p l e R s m args below meth c s.heap [] 0 0 (MQ below (kR (.long res)) args s 0 0 (fun _ => False)) (F0 m pc ls [.long v]) := by
  obtain ⟨hx, hb, -, -, -, hr, hlk, -⟩ := C
  obtain rfl := Option.some.inj h
  exact W.lret hx hb hr (fun t ht _ => ⟨rfl, ht⟩) (fun q hq => by cases hq) hdg (hlocks := hlk)
theorem kr_a {n : String} (C : kc p s m args meth c cc nL own nm Ts (some (.object n))) {v : Value} (hv : v = .null ∨ ∃ a, v = .ref a) (hdg : decode cc pc = .ok (.areturn, 1)) : W p l e R s m args below meth c s.heap [] 0 0 (MQ below (kR v) args s 0 0 (fun _ => False)) (F0 m pc ls [v]) := by
  obtain ⟨hx, hb, -, -, -, hr, hlk, -⟩ := C
  exact W.aret hx hb hr (Or.inl ⟨n, rfl⟩) hv (fun t ht _ => ⟨rfl, ht⟩) (fun q hq => by cases hq) hdg (hlocks := hlk)
theorem kx_i {D : va_G} {w : va_W} {A : Nat → Prop} (C : kc p s m args meth c cc nL own nm Ts (some .int)) {v : Int32} (hP : va_P D vwCl w H) (hS : va_S A s.heap H locs) (hdg : decode cc pc = .ok (.ireturn, 1)) : W p l e R s m args below meth c H locs 0 0 (MQ below (kX (some (.int v)) D w A) args s 0 0 A) (F0 m pc ls [.int v]) := by
  obtain ⟨hx, hb, -, -, -, hr, hlk, -⟩ := C
  exact W.iret hx hb hr (fun t ht _ => ⟨rfl, by rw [ht]; exact hP, hS.F ht⟩) hS.2.2 hdg (hlocks := hlk)
theorem kx_z {D : va_G} {w : va_W} {A : Nat → Prop} (C : kc p s m args meth c cc nL own nm Ts (some .boolean)) {v : Int32} (hz : v = 0 ∨ v = 1) (hP : va_P D vwCl w H) (hS : va_S A s.heap H locs) (hdg : decode cc pc = .ok (.ireturn, 1)) : W p l e R s m args below meth c H locs 0 0 (MQ below (kX (some (.int v)) D w A) args s 0 0 A) (F0 m pc ls [.int v]) := by
  obtain ⟨hx, hb, -, -, -, hr, hlk, -⟩ := C
  exact W.zret hx hb hr (by rcases hz with rfl | rfl <;> decide) (fun t ht _ => ⟨rfl, by rw [ht]; exact hP, hS.F ht⟩) hS.2.2 hdg (hlocks := hlk)
theorem kx_l {D : va_G} {w : va_W} {A : Nat → Prop} (C : kc p s m args meth c cc nL own nm Ts (some .long)) {v : Int64} (hP : va_P D vwCl w H) (hS : va_S A s.heap H locs) (hdg : decode cc pc = .ok (.lreturn, 1)) : W p l e R s m args below meth c H locs 0 0 (MQ below (kX (some (.long v)) D w A) args s 0 0 A) (F0 m pc ls [.long v]) := by
  obtain ⟨hx, hb, -, -, -, hr, hlk, -⟩ := C
  exact W.lret hx hb hr (fun t ht _ => ⟨rfl, by rw [ht]; exact hP, hS.F ht⟩) hS.2.2 hdg (hlocks := hlk)
theorem kx_v {D : va_G} {w : va_W} {A : Nat → Prop} (C : kc p s m args meth c cc nL own nm Ts none) (hP : va_P D vwCl w H) (hS : va_S A s.heap H locs) (hdg : decode cc pc = .ok (.return_, 1)) : W p l e R s m args below meth c H locs 0 0 (MQ below (kX none D w A) args s 0 0 A) (F0 m pc ls []) := by
  obtain ⟨hx, hb, -, -, -, hr, hlk, -⟩ := C
  exact W.vret hx hb hr (fun t ht _ => ⟨rfl, by rw [ht]; exact hP, hS.F ht⟩) hS.2.2 hdg (hlocks := hlk)
theorem kcr {v : Value} {a : Array Value} (hr : CallRun p l e R s m args below meth c H locs cells slots 0 0 (F0 m pc ls st) rest (kR v a) (fun _ => False))
    (kk : W p l e R s m args below meth c H locs cells slots Q (F0 m (pc + 3) ls (v :: rest))) : W p l e R s m args below meth c H locs cells slots Q (F0 m pc ls st) := by
  intro T hT X
  obtain ⟨v', st₀, t, T', L, h0, X', hL, e1, ⟨hv, hh⟩, stp⟩ := hr T hT X
  cases hv
  obtain ⟨t2, a1, b1⟩ := kk T' (by rw [e1, hh, h0]) (Stand.forget X' (fun q h => (hL q h).elim))
  exact ⟨t2, stp t2 a1, b1⟩
theorem kcx {D : va_G} {wc1 : va_W} {A0 A1 : Nat → Prop} {v : Option Value} {a : Array Value} (hr : CallRun p l e R s m args below meth c H locs cells slots 0 0 (F0 m pc ls st) rest (kX v D wc1 A1 a) A1) (hS : va_S A0 s.heap H locs) (hA : ∀ q, A1 q → A0 q)
    (kk : ∀ (H1 : Heap) (locs1 : List Loc), va_P D vwCl wc1 H1 → (∀ q : Nat, q < H.size → ¬ A1 q → H1[q]? = H[q]?) → va_S A0 s.heap H1 locs1 → W p l e R s m args below meth c H1 locs1 cells slots Q (F0 m (pc + 3) ls (v.toList ++ rest))) : W p l e R s m args below meth c H locs cells slots Q (F0 m pc ls st) := by
  intro T hT X
  obtain ⟨v', st₀, t, T', L, h0, X', hL, e1, ⟨hv, hp, hz, hk⟩, stp⟩ := hr T hT X
  cases hv
  rw [h0] at hz hk
  have hk' : ∀ q : Nat, q < H.size → ¬ A1 q → t.heap[q]? = H[q]? := hk
  refine (kk t.heap (locs ++ L) hp hk' ⟨Nat.le_trans hS.1 hz, fun q h1 h2 => ?_, fun x hx => ?_⟩ T' e1 X').elim (fun t2 h2 => ⟨t2, stp t2 h2.1, h2.2⟩)
  · rw [hk' q (Nat.lt_of_lt_of_le h1 hS.1) (fun z => h2 (hA q z))]
    exact hS.2.1 q h1 h2
  · rcases List.mem_append.mp hx with h | h
    · exact hS.2.2 x h
    · exact hA _ (hL x h)
variable {y : MethodName} {ws ws' : List Cond} {rm : Room} {As : List Value} {B : State → Prop} {index maxL n : Nat} {bytes : ByteArray} {ret : Option FieldType} {lv : List (Nat × Value)} {b : Addr} {Cn : String}
theorem kS {v : Value} (C : kc p s m args meth c cc nL own nm Ts rt) (hM : Met l y ws rm (va_Pc As B) (kR v) 0 0 (fun _ => False)) (hG : GoodIn Ts (va_wsS own index y ws)) (hw : ws = Cond.code y bytes maxL ret :: ws')
    (hd : y.cls ≠ "java/lang/invoke/MethodHandle" ∧ y.cls ≠ "java/lang/invoke/VarHandle" ∧ (parseMethodDescriptor y.desc).map (fun d => d.parameters.length) = some n) (hrm : rm.cells = 0 ∧ rm.slots = 0) (hR : rm.frames + 1 ≤ R.frames ∧ 8 + (maxL + 11) + rm.locals ≤ R.locals)
    (hbl : FrameBlind (va_Pc As B)) (hB : ∀ U : State, U.heap = H → s.WarmedH U.vm → B U) (hn : As.length = n) (hl : lv_has ls nL lv) (rest : List Value) (hst : st = As.reverse ++ rest) (hrest : (rest.map fun v => v.category).sum ≤ 8) (hdg : decode cc pc = .ok (.invokestatic index, 3)) (hcs : cells ≤ R.cells ∧ slots ≤ R.slots)
    (kk : W p l e R s m args below meth c H locs cells slots Q (F0 m (pc + 3) ls (v :: rest))) : W p l e R s m args below meth c H locs cells slots Q (F0 m pc ls st) := by
  obtain ⟨hx, hb, hml, hown, hts, -⟩ := C
  exact kcr (W.runS ⟨hx, hb, hml, hown, hts⟩ hM (va_cwS n hts hG hw hrm.1 hrm.2 hd hR) ⟨hbl, fun U hU hW => ⟨rfl, hB U hU hW⟩⟩ rfl hn hl.1 hst (lv_room hrest) hdg hcs) kk
theorem kV {v : Value} (C : kc p s m args meth c cc nL own nm Ts rt) (hM : Met l y ws rm (va_Pc (.ref b :: As) B) (kR v) 0 0 (fun _ => False)) (hG : GoodIn Ts (wsV own index Cn y ws)) (hw : ws = Cond.code y bytes maxL ret :: ws')
    (hd : y.cls = Cn ∧ y.cls ≠ "java/lang/invoke/MethodHandle" ∧ y.cls ≠ "java/lang/invoke/VarHandle" ∧ (parseMethodDescriptor y.desc).map (fun d => d.parameters.length) = some n) (hrm : rm.cells = 0 ∧ rm.slots = 0) (hR : rm.frames + 1 ≤ R.frames ∧ 8 + (maxL + 11) + rm.locals ≤ R.locals)
    (hbl : FrameBlind (va_Pc (.ref b :: As) B)) (hrc : ∃ cellB : Cell, H[b]? = some cellB ∧ cellB.vm.isStatics = false ∧ s.vm.findClass Cn = some cellB.cls) (hB : ∀ U : State, U.heap = H → s.WarmedH U.vm → B U) (hn : As.length = n) (hl : lv_has ls nL lv) (rest : List Value) (hst : st = As.reverse ++ .ref b :: rest) (hrest : (rest.map fun v => v.category).sum ≤ 8) (hdg : decode cc pc = .ok (.invokevirtual index, 3)) (hcs : cells ≤ R.cells ∧ slots ≤ R.slots)
    (kk : W p l e R s m args below meth c H locs cells slots Q (F0 m (pc + 3) ls (v :: rest))) : W p l e R s m args below meth c H locs cells slots Q (F0 m pc ls st) := by
  obtain ⟨hx, hb, hml, hown, hts, -⟩ := C
  exact kcr (W.runV ⟨hx, hb, hml, hown, hts⟩ hM (cwV n hts hG hw hrm.1 hrm.2 hd hR) ⟨hbl, hrc, fun U hU hW => ⟨rfl, hB U hU hW⟩⟩ rfl hn hl.1 hst (lv_room hrest) hdg hcs) kk
theorem kVx {D : va_G} {wc1 : va_W} {A0 A1 : Nat → Prop} {v : Option Value} (C : kc p s m args meth c cc nL own nm Ts rt) (hM : Met l y ws rm (va_Pc (.ref b :: As) B) (kX v D wc1 A1) 0 0 A1) (hG : GoodIn Ts (wsV own index Cn y ws)) (hw : ws = Cond.code y bytes maxL ret :: ws')
    (hd : y.cls = Cn ∧ y.cls ≠ "java/lang/invoke/MethodHandle" ∧ y.cls ≠ "java/lang/invoke/VarHandle" ∧ (parseMethodDescriptor y.desc).map (fun d => d.parameters.length) = some n) (hrm : rm.cells = 0 ∧ rm.slots = 0) (hR : rm.frames + 1 ≤ R.frames ∧ 8 + (maxL + 11) + rm.locals ≤ R.locals)
    (hbl : FrameBlind (va_Pc (.ref b :: As) B)) (hrc : ∃ cellB : Cell, H[b]? = some cellB ∧ cellB.vm.isStatics = false ∧ s.vm.findClass Cn = some cellB.cls) (hB : ∀ U : State, U.heap = H → s.WarmedH U.vm → B U) (hn : As.length = n) (hl : lv_has ls nL lv) (rest : List Value) (hst : st = As.reverse ++ .ref b :: rest) (hrest : (rest.map fun v => v.category).sum ≤ 8) (hdg : decode cc pc = .ok (.invokevirtual index, 3)) (hcs : cells ≤ R.cells ∧ slots ≤ R.slots)
    (hS : va_S A0 s.heap H locs) (hA : ∀ q, A1 q → A0 q)
    (kk : ∀ (H1 : Heap) (locs1 : List Loc), va_P D vwCl wc1 H1 → (∀ q : Nat, q < H.size → ¬ A1 q → H1[q]? = H[q]?) → va_S A0 s.heap H1 locs1 → W p l e R s m args below meth c H1 locs1 cells slots Q (F0 m (pc + 3) ls (v.toList ++ rest))) : W p l e R s m args below meth c H locs cells slots Q (F0 m pc ls st) := by
  obtain ⟨hx, hb, hml, hown, hts, -⟩ := C
  exact kcx (W.runV ⟨hx, hb, hml, hown, hts⟩ hM (cwV n hts hG hw hrm.1 hrm.2 hd hR) ⟨hbl, hrc, fun U hU hW => ⟨rfl, hB U hU hW⟩⟩ rfl hn hl.1 hst (lv_room hrest) hdg hcs) hS hA kk
end KK
