/-! THE LIST, FACTORS -/
def lsd (v : Nat) : Bool := decide (2 ≤ v) && decide (v ≤ 81) && !decide (v = 60) && decide (woF 5 63 (woF 3 63 (woF 2 63 v)) = 1)
def kLN : List Nat := [2, 3, 4, 5, 6, 8, 9, 10, 12, 15, 16, 18, 20, 24, 25, 27, 30, 32, 36, 40, 45, 48, 50, 54, 64, 72, 75, 80, 81]
theorem kLN_eq : (List.range' 2 80).filter lsd = kLN := by decide +kernel
theorem kLN_eq2 : (List.range 82).filter lsd = kLN := by decide +kernel
theorem kLf_eq : ∀ j, j < 29 → kLf j = nI (kLN.getD j 0) := by decide +kernel
theorem lsd_in : ∀ v, v < 82 → lsd v = true → v ∈ kLN := by decide +kernel
theorem q_isl {v : Nat} (h1 : 1 ≤ v) (hv : v < 2 ^ 62) : mX7_isListed (lN v) = some (if lsd v = true then 1 else 0) := by
  have e2 : (2 : Int64) = lN 2 := rfl
  have e81 : (81 : Int64) = lN 81 := rfl
  rw [mX7_isListed, q_in, Option.bind_some, e2, e81]
  have hcc : (lN 2 ≤ lN v ∧ lN v ≤ lN 81) ↔ (2 ≤ v ∧ v ≤ 81) := and_congr (pk_lLE (by decide) (by omega)) (pk_lLE (by omega) (by decide))
  by_cases h2 : 2 ≤ v ∧ v ≤ 81
  · rw [if_pos (hcc.mpr h2), if_neg h10]
    by_cases h60 : v = 60
    · rw [if_pos (show lN v = (60 : Int64) from by rw [h60]; rfl), if_neg]
      rw [lsd, h60]; decide
    · rw [if_neg (show ¬ lN v = (60 : Int64) from fun q => h60 ((pk_lEQ (b := 60) (by omega) (by decide)).mp q))]
      have hls : (lsd v = true) ↔ ev v := by
        rw [lsd, ev]
        simp [h2.1, h2.2, h60]
      rcases q_evX h1 hv with ⟨a, -, h4⟩ | ⟨a, -, h4⟩
      · rw [h4, Option.bind_some, if_neg h10, if_pos (hls.mpr a)]
      · rw [h4, Option.bind_some, if_pos (show (0 : Int32) = 0 from rfl), if_neg (fun q => a (hls.mp q))]
  · rw [if_neg (fun q => h2 (hcc.mp q)), if_pos (show (0 : Int32) = 0 from rfl), if_neg]
    rw [lsd]
    simp only [Bool.and_eq_true, decide_eq_true_eq]
    omega
theorem q_isl0 : mX7_isListed (lN 0) = some 0 := by rfl
def la (i : Int32) (kE : Int32 → Option Int32) : List Nat → Nat → Option Int32
  | [], c => kE (nI c)
  | v :: vs, c => if nI c = i then some (nI v) else la i kE vs (c + 1)
theorem q_la_loop (i : Int32) (kE : Int32 → Option Int32) : ∀ (j v c f : Nat), v + j = 82 → 1 ≤ v → j < f → mlX7_listAt_4 i kE f (nI c) (nI v) = la i kE ((List.range' v j).filter lsd) c := by
  intro j
  induction j with
  | zero =>
    intro v c f hv h1 hf
    obtain ⟨f, rfl⟩ : ∃ z, f = z + 1 := ⟨f - 1, by omega⟩
    rw [mlX7_listAt_4, if_pos (show (82 : Int32) ≤ nI v from (nI_leI (a := 82) (by decide) (by omega)).mpr (by omega))]
    rfl
  | succ j ih =>
    intro v c f hv h1 hf
    obtain ⟨f, rfl⟩ : ∃ z, f = z + 1 := ⟨f - 1, by omega⟩
    rw [mlX7_listAt_4, if_neg (show ¬ (82 : Int32) ≤ nI v from fun q => by have := (nI_leI (a := 82) (by decide) (by omega)).mp q; omega)]
    rw [show Int32.toInt64 (nI v) = lN v from nI_l (by omega), q_isl h1 (by omega), Option.bind_some]
    have e3 : nI v + (1 : Int32) = nI (v + 1) := nI_1 v
    have e4 : nI c + (1 : Int32) = nI (c + 1) := nI_1 c
    simp only [md_jn, md_let, e3, e4]
    rw [List.range'_succ, List.filter_cons]
    by_cases h : lsd v = true
    · rw [if_pos h, if_neg h10, if_pos h, la, ih (v + 1) (c + 1) f (by omega) (by omega) (by omega)]
    · rw [if_neg h, if_pos (show (0 : Int32) = 0 from rfl), if_neg h, ih (v + 1) c f (by omega) (by omega) (by omega)]
theorem la_hit (kE : Int32 → Option Int32) : ∀ (l : List Nat) (c j : Nat), j < l.length → c + l.length < 2 ^ 31 → la (nI (c + j)) kE l c = some (nI (l.getD j 0)) := by
  intro l
  induction l with
  | nil => intro c j h; simp at h
  | cons v vs ih =>
    intro c j hj hl
    rw [List.length_cons] at hj hl
    rw [la]
    cases j with
    | zero => rw [if_pos (by rw [Nat.add_zero])]; rfl
    | succ j =>
      rw [if_neg (fun q => by have := (nI_eq (by omega) (by omega)).mp q; omega), show c + (j + 1) = c + 1 + j by omega, ih (c + 1) j (by omega) (by omega)]
      rfl
theorem la_miss (i : Int32) (kE : Int32 → Option Int32) : ∀ (l : List Nat) (c : Nat), (∀ j, j < l.length → i ≠ nI (c + j)) → la i kE l c = kE (nI (c + l.length)) := by
  intro l
  induction l with
  | nil => intro c _; rfl
  | cons v vs ih =>
    intro c h
    rw [la, if_neg (fun q => h 0 (by rw [List.length_cons]; omega) (by rw [Nat.add_zero]; exact q.symm)), ih (c + 1) (fun j hj => by rw [show c + 1 + j = c + (j + 1) by omega]; exact h (j + 1) (by rw [List.length_cons]; omega))]
    rw [List.length_cons, show c + 1 + vs.length = c + (vs.length + 1) by omega]
theorem q_listAt (i : Int32) : mX7_listAt i = la i (fun y => if i = (-1 : Int32) then some y else some (-1 : Int32)) kLN 0 := by
  rw [mX7_listAt, show (0 : Int32) = nI 0 from rfl, show (2 : Int32) = nI 2 from rfl, q_la_loop _ _ 80 2 0 kN rfl (by decide) (by decide), kLN_eq]
theorem q_listAt_in {j : Nat} (hj : j < 29) : mX7_listAt (nI j) = some (kLf j) := by
  rw [q_listAt, kLf_eq j hj]
  have := la_hit (fun y => if nI j = (-1 : Int32) then some y else some (-1 : Int32)) kLN 0 j hj (by decide)
  rw [Nat.zero_add] at this
  exact this
theorem q_listed {j : Nat} (hj : j < 29) : mX4_listed (nI j) = some (kLf j) := by
  rw [mX4_listed, if_neg (nI_pos (by omega)), if_neg (show ¬ (29 : Int32) ≤ nI j from fun q => by have := (nI_leI (a := 29) (by decide) (by omega)).mp q; omega), if_neg (nI_in hj (by decide)), nI_clamp (by omega)]
/-- list -/
theorem op_list (i : Int32) : ∃ r, mX6_list i = some r ∧ mX7_list i = some r := by
  rw [mX6_list, mX7_list, bind_id (mX7_listAt i), mX4_listRows, Option.bind_some, Option.bind_some]
  rcases pk_ix i (n := 29) (by decide) with h | h | ⟨j, hj, rfl⟩
  · have hm : mX7_listAt i = (fun y => if i = (-1 : Int32) then some y else some (-1 : Int32)) (nI (0 + kLN.length)) := by
      rw [q_listAt, la_miss]
      intro j hj e
      rw [e] at h
      exact nI_pos (n := j) (by have : kLN.length = 29 := rfl; omega) (by rw [Nat.zero_add] at h; exact h)
    rw [hm]
    by_cases h1 : i = -1
    · simp only [if_pos h1]
      exact ⟨_, rfl, rfl⟩
    · simp only [if_neg h1, if_pos h]
      exact ⟨_, rfl, rfl⟩
  · have hm : mX7_listAt i = (fun y => if i = (-1 : Int32) then some y else some (-1 : Int32)) (nI (0 + kLN.length)) := by
      rw [q_listAt, la_miss]
      intro j hj e
      have hj : j < 29 := hj
      rw [e, Nat.zero_add] at h
      have := (nI_leI (by decide) (by omega)).mp h
      omega
    have h0 : ¬ i < 0 := fun q => by
      rw [Int32.lt_iff_toInt_lt] at q
      rw [Int32.le_iff_toInt_le] at h
      have e1 : (nI 29).toInt = 29 := by decide
      have e2 : (0 : Int32).toInt = 0 := by decide
      omega
    have h1 : ¬ i = -1 := fun q => h0 (by rw [q]; decide)
    rw [hm]
    simp only [if_neg h1, if_neg h0]
    rw [if_pos (show (29 : Int32) ≤ i from h)]
    exact ⟨_, rfl, rfl⟩
  · have h1 : ¬ nI j = (-1 : Int32) := fun q => by
      have : (nI j).toInt = (-1 : Int32).toInt := by rw [q]
      rw [nI_toInt (by omega)] at this
      have e2 : (-1 : Int32).toInt = -1 := by decide
      omega
    rw [if_neg h1, if_neg (nI_pos (by omega)), if_neg (show ¬ (29 : Int32) ≤ nI j from fun q => by have := (nI_leI (a := 29) (by decide) (by omega)).mp q; omega), q_listed hj, q_listAt_in hj]
    exact ⟨_, rfl, rfl⟩
def glL : List Nat → Nat → Nat
  | [], _ => 1
  | v :: vs, w => if w % v = 0 then v else glL vs w
theorem glL_spec (w : Nat) : ∀ (l : List Nat), (∃ u, u ∈ l ∧ w % u = 0) → glL l w ∈ l ∧ w % glL l w = 0 := by
  intro l
  induction l with
  | nil => intro ⟨u, h, _⟩; cases h
  | cons v vs ih =>
    intro ⟨u, h, hu⟩
    rw [glL]
    by_cases hv : w % v = 0
    · rw [if_pos hv]; exact ⟨List.mem_cons_self, hv⟩
    · rw [if_neg hv]
      rcases List.mem_cons.mp h with e | e
      · exact absurd (e ▸ hu) hv
      · obtain ⟨a, b⟩ := ih ⟨u, e, hu⟩
        exact ⟨List.mem_cons_of_mem _ a, b⟩
def gl (w : Nat) : Nat := glL kLN.reverse w
theorem gl_own : ∀ w, w ∈ kLN → gl w = w := by decide +kernel
theorem kLN_rng : ∀ u, u ∈ kLN → 2 ≤ u ∧ u ≤ 81 := by decide +kernel
theorem gl_rows : ∀ j, j < 29 → ((kLN.take (j + 1)).reverse = kLN.getD j 0 :: (kLN.take j).reverse ∧ 2 ≤ kLN.getD j 0 ∧ kLN.getD j 0 ≤ 81) := by decide +kernel
theorem q_gl_loop (w : Nat) (hw : w < 2 ^ 62) (kE : Unit → Option Int32) (hk : kE () = some (nI 1)) : ∀ (j f : Nat), j ≤ 29 → j < f → mlX4_greatestListed_7 (lN w) kE f (nI j - 1) = some (nI (glL (kLN.take j).reverse w)) := by
  intro j
  induction j with
  | zero =>
    intro f _ hf
    obtain ⟨f, rfl⟩ : ∃ z, f = z + 1 := ⟨f - 1, by omega⟩
    rw [mlX4_greatestListed_7, if_pos (by decide), hk]
    rfl
  | succ j ih =>
    intro f h29 hf
    obtain ⟨f, rfl⟩ : ∃ z, f = z + 1 := ⟨f - 1, by omega⟩
    obtain ⟨g1, g2, g3⟩ := gl_rows j (by omega)
    rw [nI_pred, mlX4_greatestListed_7, if_neg (nI_pos (by omega)), if_neg (nI_in (N := 29) (by omega) (by decide)), nI_clamp (by omega), kLf_eq j (by omega), g1]
    generalize kLN.getD j 0 = u at g2 g3
    have e1 : nI j + (-1 : Int32) = nI j - 1 := by rw [Int32.sub_eq_add_neg]
    have el : (nI u).toInt64 = lN u := nI_l (by omega)
    simp only [md_jn, md_let, e1, el]
    rw [if_neg (show ¬ nI u ≤ (1 : Int32) from fun q => by have := (nI_leI (b := 1) (by omega) (by decide)).mp q; omega), if_neg (show ¬ lN u = (0 : Int64) from fun q => by have := (pk_lEQ (b := 0) (by omega) (by decide)).mp q; omega), glL]
    by_cases h : w % u = 0
    · rw [if_pos ((q_rem0 (by omega) (by omega) (by omega)).mpr h), if_pos h]
    · rw [if_neg (fun q => h ((q_rem0 (by omega) (by omega) (by omega)).mp q)), if_neg h]
      exact ih f (by omega) (by omega)
theorem q_gl {w : Nat} (hw : w < 2 ^ 62) : mX4_greatestListed (lN w) = some (nI (gl w)) := by
  rw [mX4_greatestListed, md_let]
  exact q_gl_loop w hw _ rfl 29 kN (by decide) (by decide)
theorem q_f40 (w : Nat) (hw : w < 2 ^ 62) (kE : Int32 → Option Int32) : ∀ (v f : Nat), v ≤ 81 → v < f → (∃ u, u ∈ (List.range (v + 1)).filter lsd ∧ w % u = 0) → mlX7_factor_40 (lN w) kE f (nI v) = kE (nI (glL ((List.range (v + 1)).filter lsd).reverse w)) := by
  intro v
  induction v with
  | zero =>
    intro f _ _ ⟨u, hu, _⟩
    have : (List.range (0 + 1)).filter lsd = [] := by decide
    rw [this] at hu
    cases hu
  | succ v ih =>
    intro f h81 hf hex
    obtain ⟨f, rfl⟩ : ∃ z, f = z + 1 := ⟨f - 1, by omega⟩
    have el : (nI (v + 1)).toInt64 = lN (v + 1) := nI_l (by omega)
    have e1 : nI (v + 1) + (-1 : Int32) = nI v := pk_m1 v
    rw [mlX7_factor_40, el, q_isl (by omega) (by omega), Option.bind_some]
    simp only [md_jn, md_let, e1]
    rw [List.range_succ, List.filter_append] at hex ⊢
    by_cases h : lsd (v + 1) = true
    · have eF : List.filter lsd [v + 1] = [v + 1] := by rw [List.filter_cons, if_pos h]; rfl
      rw [eF] at hex ⊢
      rw [if_pos h, if_neg h10, if_neg (show ¬ lN (v + 1) = (0 : Int64) from fun q => by have := (pk_lEQ (b := 0) (by omega) (by decide)).mp q; omega), List.reverse_append, List.reverse_singleton, List.singleton_append, glL]
      by_cases hq : w % (v + 1) = 0
      · rw [if_pos ((q_rem0 (by omega) (by omega) (by omega)).mpr hq), if_pos hq]
      · rw [if_neg (fun q => hq ((q_rem0 (by omega) (by omega) (by omega)).mp q)), if_neg hq]
        refine ih f (by omega) (by omega) ?_
        obtain ⟨u, hu, hu2⟩ := hex
        rcases List.mem_append.mp hu with z | z
        · exact ⟨u, z, hu2⟩
        · rw [List.mem_singleton] at z; rw [z] at hu2; exact absurd hu2 hq
    · have eF : List.filter lsd [v + 1] = [] := by rw [List.filter_cons, if_neg h]; rfl
      rw [eF, List.append_nil] at hex ⊢
      rw [if_neg h, if_pos (show (0 : Int32) = 0 from rfl)]
      exact ih f (by omega) (by omega) hex
/-- only 2, 3, 5 part it -/
def dv (w : Nat) : Prop := ∀ d, d ∣ w → d % 2 ≠ 0 → d % 3 ≠ 0 → d % 5 ≠ 0 → d = 1
theorem dv_step {p d m : Nat} (hp : p = 2 ∨ p = 3 ∨ p = 5) (hd : d % p ≠ 0) (h : d ∣ p * m) : d ∣ m := by
  obtain ⟨t, ht⟩ := h
  have hm : (d * t) % p = 0 := by rw [← ht]; exact Nat.mul_mod_right p m
  have ht0 : t % p = 0 := by
    rw [Nat.mul_mod] at hm
    have h1 : d % p < p := Nat.mod_lt _ (by omega)
    have h2 : t % p < p := Nat.mod_lt _ (by omega)
    generalize d % p = a at hm hd h1
    generalize t % p = b at hm h2 ⊢
    rcases hp with rfl | rfl | rfl
    · have : a = 1 := by omega
      subst this; omega
    · rcases (show a = 1 ∨ a = 2 by omega) with rfl | rfl <;> omega
    · rcases (show a = 1 ∨ a = 2 ∨ a = 3 ∨ a = 4 by omega) with rfl | rfl | rfl | rfl <;> omega
  obtain ⟨u, hu⟩ := Nat.dvd_of_mod_eq_zero ht0
  refine ⟨u, ?_⟩
  rw [hu, ← Nat.mul_assoc, Nat.mul_comm d p, Nat.mul_assoc] at ht
  exact Nat.eq_of_mul_eq_mul_left (by omega) ht
theorem dv_wo {p d : Nat} (hp : p = 2 ∨ p = 3 ∨ p = 5) (hd : d % p ≠ 0) : ∀ (k n : Nat), d ∣ n → d ∣ woF p k n := by
  intro k
  induction k with
  | zero => intro n h; exact h
  | succ k ih =>
    intro n h
    rw [woF]
    split
    · rename_i h0
      refine ih _ (dv_step hp hd ?_)
      rw [Nat.mul_div_cancel' (Nat.dvd_of_mod_eq_zero h0)]
      exact h
    · exact h
theorem ev_dv {n : Nat} (h : ev n) : dv n := by
  intro d hd h2 h3 h5
  have := dv_wo (p := 5) (by omega) h5 63 _ (dv_wo (p := 3) (by omega) h3 63 _ (dv_wo (p := 2) (by omega) h2 63 n hd))
  rw [ev] at h
  rw [h] at this
  exact Nat.dvd_one.mp this
theorem dv_div {w d : Nat} (h : dv w) (hd : d ∣ w) : dv d := fun e he => h e (Nat.dvd_trans he hd)
theorem sxF_dvd : ∀ (k n : Nat), sxF k n ∣ n := by
  intro k
  induction k with
  | zero => intro n; exact Nat.dvd_refl n
  | succ k ih =>
    intro n
    rw [sxF]
    split
    · rename_i h
      exact Nat.dvd_trans (ih _) ⟨60, by omega⟩
    · exact Nat.dvd_refl n
theorem dv_ex {w : Nat} (h : dv w) (h1 : 1 < w) : ∃ u, u ∈ kLN ∧ w % u = 0 := by
  by_cases a : w % 2 = 0
  · exact ⟨2, by decide, a⟩
  by_cases b : w % 3 = 0
  · exact ⟨3, by decide, b⟩
  by_cases c : w % 5 = 0
  · exact ⟨5, by decide, c⟩
  have := h w (Nat.dvd_refl w) a b c
  omega
theorem q_fac_loop (i : Int32) (kE : Int32 → Option Int32) (hk : ∀ c, ∃ r, kE c = some r) : ∀ (j s w f g : Nat) (c : Int32), s + j = 48 → j < f → j < g → 1 ≤ w → w < 2 ^ j → w < 167961600000000 → dv w → ∃ r, mlX6_factor_32 i kE f (lN w) c (nI s) = some r ∧ mlX7_factor_29 i kE g (lN w) c = some r := by
  intro j
  induction j with
  | zero => intro s w f g c _ _ _ h1 h2; simp at h2; omega
  | succ j ih =>
    intro s w f g c hs hf hg h1 hw hwE hd
    obtain ⟨f, rfl⟩ : ∃ z, f = z + 1 := ⟨f - 1, by omega⟩
    obtain ⟨g, rfl⟩ : ∃ z, g = z + 1 := ⟨g - 1, by omega⟩
    rw [mlX6_factor_32, mlX7_factor_29, if_neg (show ¬ (48 : Int32) ≤ nI s from fun q => by have := (nI_leI (a := 48) (by decide) (by omega)).mp q; omega)]
    by_cases hw1 : w = 1
    · rw [if_pos (show lN w ≤ (1 : Int64) from by rw [hw1]; decide), if_pos (show lN w = (1 : Int64) from by rw [hw1]; rfl)]
      obtain ⟨r, hr⟩ := hk c
      exact ⟨r, hr, hr⟩
    · rw [if_neg (show ¬ lN w ≤ (1 : Int64) from fun q => by have := (pk_lLE (b := 1) (by omega) (by decide)).mp q; omega), if_neg (show ¬ lN w = (1 : Int64) from fun q => hw1 ((pk_lEQ (b := 1) (by omega) (by decide)).mp q))]
      obtain ⟨u, hu, hu2⟩ := dv_ex hd (by omega)
      obtain ⟨m1, m2⟩ := glL_spec w kLN.reverse ⟨u, List.mem_reverse.mpr hu, hu2⟩
      have hg2 := kLN_rng _ (List.mem_reverse.mp m1)
      have eg : glL kLN.reverse w = gl w := rfl
      rw [eg] at m2 hg2
      rw [q_gl (by omega), Option.bind_some, show (81 : Int32) = nI 81 from rfl, q_f40 w (by omega) _ 81 kN (by decide) (by decide) (by rw [kLN_eq2]; exact ⟨u, hu, hu2⟩), kLN_eq2, eg]
      have hsel : Option.bind (mX7_isListed (lN w)) (fun u12 => (if u12 = 0 then some (nI (gl w)) else some (Int64.toInt32 (lN w)))) = some (nI (gl w)) := by
        rw [q_isl h1 (by omega), Option.bind_some]
        by_cases hl : lsd w = true
        · have hw82 : w < 82 := by
            rw [lsd] at hl
            simp only [Bool.and_eq_true, decide_eq_true_eq] at hl
            omega
          rw [if_pos hl, if_neg h10, lN_i, gl_own w (lsd_in w hw82 hl)]
        · rw [if_neg hl, if_pos (show (0 : Int32) = 0 from rfl)]
      obtain ⟨u12, e12, hsel⟩ := Option.bind_eq_some_iff.mp hsel
      rw [e12, Option.bind_some]
      have el : (nI (gl w)).toInt64 = lN (gl w) := nI_l (by omega)
      have ez : (if u12 = 0 then nI (gl w) else Int64.toInt32 (lN w)) = nI (gl w) := by
        by_cases z : u12 = 0
        · rw [if_pos z]
        · rw [if_neg z]; rw [if_neg z] at hsel; exact Option.some.inj hsel
      have hne : ¬ lN (gl w) = (0 : Int64) := fun q => by have := (pk_lEQ (b := 0) (by omega) (by decide)).mp q; omega
      have ediv : lN w / lN (gl w) = lN (w / gl w) := pk_lDiv (by omega) (by omega) (by omega)
      have hdvd : gl w ∣ w := Nat.dvd_of_mod_eq_zero m2
      have hq1 : 1 ≤ w / gl w := (Nat.one_le_div_iff (by omega)).mpr (Nat.le_of_dvd h1 hdvd)
      have hq2 : w / gl w < 2 ^ j := div_lt2 hg2.1 hw
      have hqE : w / gl w < 167961600000000 := Nat.lt_of_le_of_lt (Nat.div_le_self _ _) hwE
      have hsx := sx_le (w / gl w)
      have hsd : dv (sx (w / gl w)) := dv_div hd (Nat.dvd_trans (sxF_dvd 8 _) (Nat.div_dvd_of_dvd hdvd))
      have e3 : nI s + (1 : Int32) = nI (s + 1) := nI_1 s
      simp only [md_jn, md_let, e3]
      have hR : ∀ z : Int32, z = nI (gl w) → (if c = i then some z else if z.toInt64 = 0 then none else (mX7_sixtyOf (lN w / z.toInt64)).bind fun u16 => mlX7_factor_29 i kE g u16 (c + 1)) = if c = i then some (nI (gl w)) else mlX7_factor_29 i kE g (lN (sx (w / gl w))) (c + 1) := by
        intro z hz
        rw [hz, el, if_neg hne, ediv, q_six hq1 hqE, Option.bind_some]
      have hRR : (if u12 = 0 then (if c = i then some (nI (gl w)) else if (nI (gl w)).toInt64 = 0 then none else (mX7_sixtyOf (lN w / (nI (gl w)).toInt64)).bind fun u16 => mlX7_factor_29 i kE g u16 (c + 1)) else (if c = i then some (lN w).toInt32 else if ((lN w).toInt32).toInt64 = 0 then none else (mX7_sixtyOf (lN w / ((lN w).toInt32).toInt64)).bind fun u16 => mlX7_factor_29 i kE g u16 (c + 1))) = if c = i then some (nI (gl w)) else mlX7_factor_29 i kE g (lN (sx (w / gl w))) (c + 1) := by
        by_cases z : u12 = 0
        · rw [if_pos z]; exact hR _ rfl
        · rw [if_neg z]; rw [if_neg z] at ez; exact hR _ ez
      rw [hRR]
      by_cases hc : c = i
      · rw [if_pos hc, if_pos hc]
        exact ⟨_, rfl, rfl⟩
      · rw [if_neg hc, if_neg hc, if_neg (show ¬ nI (gl w) ≤ (1 : Int32) from fun q => by have := (nI_leI (b := 1) (by omega) (by decide)).mp q; omega), el, if_neg hne, ediv, q_strip (by omega), Option.bind_some]
        exact ih (s + 1) (sx (w / gl w)) f g (c + 1) (by omega) (by omega) (by omega) (sx_pos hq1) (by omega) (by omega) hsd
/-- factor -/
theorem op_factor (p : Int64) (i : Int32) : ∃ r, mX6_factor p i = some r ∧ mX7_factor p i = some r := by
  rcases q_dom p with ⟨h1, h2⟩ | ⟨n, ha, hb, rfl, h1, h2⟩
  · refine ⟨-2, ?_, ?_⟩
    · rw [mX6_factor, h1]; rfl
    · rw [mX7_factor, h2]; rfl
  rw [mX6_factor, h1, Option.bind_some, if_neg h10]
  rw [mX7_factor, h2, Option.bind_some, if_neg h10]
  rcases q_evX ha (by omega) with ⟨he, h3, h4⟩ | ⟨-, h3, h4⟩
  · rw [h3, h4, Option.bind_some, Option.bind_some, if_neg h10, if_neg h10, q_strip (by omega), q_six ha hb, Option.bind_some, Option.bind_some]
    have hs := sx_le n
    have h48 : (2 : Nat) ^ 48 = 281474976710656 := by decide
    exact q_fac_loop i (fun y => if i = -1 then some y else some (-6)) (fun c => by by_cases h : i = -1 <;> simp [h]) 48 0 (sx n) kN kN 0 rfl (by decide) (by decide) (sx_pos ha) (by omega) (by omega) (dv_div (ev_dv he) (sxF_dvd 8 n))
  · rw [h3, h4]
    exact ⟨_, rfl, rfl⟩
