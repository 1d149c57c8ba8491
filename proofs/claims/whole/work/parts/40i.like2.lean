theorem lx_step (x1 : Int64) (x3 x4 x5 : Int32) (kE : Int32 → Option Int64) (n : Nat) (x6 x7 : Int32) : mlX6_like_34 x1 x3 x4 x5 kE (n + 1) x6 x7 = (if ((1 : Int32) <<< (x3 &&& 31)) ≤ x7 then kE x6 else Option.bind (mJ6_bitCount_0f7a4 x7) (fun u7 => if u7 = x5 then (if x6 = x4 then Option.bind (mX1_spread x1 x7) (fun u12 => some u12) else mlX6_like_34 x1 x3 x4 x5 kE n (x6 + (1 : Int32)) (x7 + (2 : Int32))) else mlX6_like_34 x1 x3 x4 x5 kE n x6 (x7 + (2 : Int32)))) := by
  rw [mlX6_like_34]
  simp only [md_jnP, md_letP]
theorem lm_step (x1 : Int64) (x3 x4 : Int32) (kE : Int32 → Option Int64) (n : Nat) (x5 x6 : Int32) : mlX7_like_29 x1 x3 x4 kE (n + 1) x5 x6 = (if ((1 : Int32) <<< (x3 &&& 31)) ≤ x6 then kE x5 else Option.bind (mX7_likeBy x1 x6) (fun u6 => if u6 ≤ (0 : Int64) then mlX7_like_29 x1 x3 x4 kE n x5 (x6 + (1 : Int32)) else if x5 = x4 then some u6 else mlX7_like_29 x1 x3 x4 kE n (x5 + (1 : Int32)) (x6 + (1 : Int32)))) := by
  rw [mlX7_like_29]
  simp only [md_jnP, md_letP]
theorem sp_bd (v m : Nat) : sp 8 0 m (ll 8 v) < 167961600000000 := by
  have := sp_lt 8 0 m (ll 8 v) (fun d hd => (ll_rng 8 v d hd).2)
  rw [Nat.zero_add, e60_8, Nat.pow_zero] at this
  omega
theorem sc_pos {v : Nat} (h1 : 1 ≤ v) (hv : v < 167961600000000) : ∃ d ds, ll 8 v = d :: ds := by
  have h := lr_ll 8 v (by rw [e60_8]; exact hv) hv
  cases e : ll 8 v with
  | nil =>
    rw [e] at h
    have h : sx v = 0 := h
    have := sx_pos h1
    omega
  | cons d ds => exact ⟨d, ds, rfl⟩
theorem sp_pos {v m : Nat} (h1 : 1 ≤ v) (hv : v < 167961600000000) (hm : m % 2 = 1) : 1 ≤ sp 8 0 m (ll 8 v) := by
  obtain ⟨d, ds, e⟩ := sc_pos h1 hv
  have hd : 1 ≤ d := (ll_rng 8 v d (by rw [e]; exact List.mem_cons_self)).1
  rw [e, show sp 8 0 m (d :: ds) = if m % 2 = 1 then d * 60 ^ 0 + sp 7 (0 + 1) (m / 2) ds else sp 7 (0 + 1) (m / 2) (d :: ds) from rfl, if_pos hm, Nat.pow_zero]
  omega
/-- an even place is passed over -/
theorem q_even_place {v d g D m : Nat} (hv : v < 167961600000000) (hd : d ≤ 8) (hD : 2 ^ d = 2 * D) (hm : m < D) (i : Int32) (kE : Int32 → Option Int64) (c : Int32) : mlX7_like_29 (lN v) (nI d) i kE (g + 1) c (nI (2 * m)) = mlX7_like_29 (lN v) (nI d) i kE g c (nI (2 * m + 1)) := by
  have h256 : 2 ^ d ≤ 2 ^ 8 := Nat.pow_le_pow_right (by decide) hd
  have e8 : (2 : Nat) ^ 8 = 256 := by decide
  rw [lm_step, q_shl d (by omega), if_neg (fun q => by have := (nI_leI (by omega) (by omega)).mp q; omega), q_lb hv (by omega), Option.bind_some, if_neg (show ¬ (sc v = pc 8 (2 * m) ∧ 2 * m % 2 = 1) from fun z => by omega), if_pos (show (-1 : Int64) ≤ 0 by decide), show nI (2 * m) + (1 : Int32) = nI (2 * m + 1) from nI_1 _]
theorem q_like_loop {v d D : Nat} (h1 : 1 ≤ v) (hv : v < 167961600000000) (hd : d ≤ 8) (hD : 2 ^ d = 2 * D) (i : Int32) (kE : Int32 → Option Int64) (hk : ∀ c, ∃ r, kE c = some r) : ∀ (j m f g : Nat) (c : Int32), m + j = D → j < f → 2 * j < g → ∃ r, mlX6_like_34 (lN v) (nI d) i (nI (sc v)) kE f c (nI (2 * m + 1)) = some r ∧ mlX7_like_29 (lN v) (nI d) i kE g c (nI (2 * m)) = some r := by
  intro j
  have h256 : 2 ^ d ≤ 2 ^ 8 := Nat.pow_le_pow_right (by decide) hd
  have e8 : (2 : Nat) ^ 8 = 256 := by decide
  have hsc : sc v ≤ 8 := ll_len 8 v
  induction j with
  | zero =>
    intro m f g c hm hf hg
    obtain ⟨f, rfl⟩ : ∃ z, f = z + 1 := ⟨f - 1, by omega⟩
    obtain ⟨g, rfl⟩ : ∃ z, g = z + 1 := ⟨g - 1, by omega⟩
    rw [lx_step, lm_step, q_shl d (by omega), if_pos ((nI_leI (by omega) (by omega)).mpr (by omega)), if_pos ((nI_leI (by omega) (by omega)).mpr (by omega))]
    obtain ⟨r, hr⟩ := hk c
    exact ⟨r, hr, hr⟩
  | succ j ih =>
    intro m f g c hm hf hg
    obtain ⟨f, rfl⟩ : ∃ z, f = z + 1 := ⟨f - 1, by omega⟩
    obtain ⟨g, rfl⟩ : ∃ z, g = z + 1 + 1 := ⟨g - 2, by omega⟩
    have hp8 := pc_le 8 (2 * m + 1)
    have hlt : ¬ nI (2 ^ d) ≤ nI (2 * m + 1) := fun q => by have := (nI_leI (by omega) (by omega)).mp q; omega
    rw [q_even_place hv hd hD (by omega), lx_step, lm_step, q_shl d (by omega), if_neg hlt, if_neg hlt, q_bc _ (by omega), q_lb hv (by omega), q_spread hv (by omega)]
    simp only [Option.bind_some]
    have e2 : nI (2 * m + 1) + (2 : Int32) = nI (2 * (m + 1) + 1) := nI_add (2 * m + 1) 2
    have e1 : nI (2 * m + 1) + (1 : Int32) = nI (2 * (m + 1)) := nI_1 (2 * m + 1)
    rw [e1, e2]
    have hbd := sp_bd v (2 * m + 1)
    by_cases h : sc v = pc 8 (2 * m + 1)
    · have hpos := sp_pos h1 hv (m := 2 * m + 1) (by omega)
      rw [if_pos (show nI (pc 8 (2 * m + 1)) = nI (sc v) from by rw [h]), if_pos (show sc v = pc 8 (2 * m + 1) ∧ (2 * m + 1) % 2 = 1 from ⟨h, by omega⟩), if_neg (show ¬ lN (sp 8 0 (2 * m + 1) (ll 8 v)) ≤ (0 : Int64) from fun q => by have := (pk_lLE (b := 0) (by omega) (by decide)).mp q; omega)]
      by_cases hc : c = i
      · rw [if_pos hc, if_pos hc]
        exact ⟨_, rfl, rfl⟩
      · rw [if_neg hc, if_neg hc]
        exact ih (m + 1) f g (c + 1) (by omega) (by omega) (by omega)
    · rw [if_neg (show ¬ nI (pc 8 (2 * m + 1)) = nI (sc v) from fun q => h ((nI_eq (by omega) (by omega)).mp q).symm), if_neg (show ¬ (sc v = pc 8 (2 * m + 1) ∧ (2 * m + 1) % 2 = 1) from fun z => h z.1), if_pos (show (-1 : Int64) ≤ 0 by decide)]
      exact ih (m + 1) f g c (by omega) (by omega) (by omega)
/-- the sight's length -/
theorem sl_step (kE : Int32 → Option Int32) (n : Nat) (x2 : Int32) (x3 : Int64) (x5 : Int32) : mlX1_sightLength_7 kE (n + 1) x2 x3 x5 = (if (8 : Int32) ≤ x5 then kE x2 else if x3 ≤ (0 : Int64) then kE x2 else if (x3 - x3 / (60 : Int64) * (60 : Int64)) = (0 : Int64) then mlX1_sightLength_7 kE n x2 (x3 / (60 : Int64)) (x5 + (1 : Int32)) else mlX1_sightLength_7 kE n (x2 + (1 : Int32)) (x3 / (60 : Int64)) (x5 + (1 : Int32))) := by
  rw [mlX1_sightLength_7]
  simp only [md_jnP, md_letP]
theorem q_sl_loop (kE : Int32 → Option Int32) : ∀ (j i f c n : Nat), i + j = 8 → j < f → n < 2 ^ 62 → mlX1_sightLength_7 kE f (nI c) (lN n) (nI i) = kE (nI (c + (ll j n).length)) := by
  intro j
  induction j with
  | zero =>
    intro i f c n hi hf hn
    obtain ⟨f, rfl⟩ : ∃ g, f = g + 1 := ⟨f - 1, by omega⟩
    rw [sl_step, if_pos (show (8 : Int32) ≤ nI i from (nI_leI (a := 8) (by decide) (by omega)).mpr (by omega)), ll, List.length_nil, Nat.add_zero]
  | succ j ih =>
    intro i f c n hi hf hn
    obtain ⟨f, rfl⟩ : ∃ g, f = g + 1 := ⟨f - 1, by omega⟩
    rw [sl_step, if_neg (show ¬ (8 : Int32) ≤ nI i from fun q => by have := (nI_leI (a := 8) (by decide) (by omega)).mp q; omega)]
    by_cases h : n = 0
    · rw [if_pos (show lN n ≤ (0 : Int64) from (pk_lLE (b := 0) (by omega) (by decide)).mpr (by omega)), h, ll_0, List.length_nil, Nat.add_zero]
    · have e1 : lN n / (60 : Int64) = lN (n / 60) := pk_lDiv (b := 60) (by omega) (by decide) (by decide)
      have er : lN n - lN n / (60 : Int64) * (60 : Int64) = lN (n % 60) := pk_lRem (b := 60) (by omega) (by decide) (by decide)
      have e2 : nI i + (1 : Int32) = nI (i + 1) := nI_1 i
      have e3 : nI c + (1 : Int32) = nI (c + 1) := nI_1 c
      rw [if_neg (show ¬ lN n ≤ (0 : Int64) from fun q => by have := (pk_lLE (b := 0) (by omega) (by decide)).mp q; omega), er, e1, e2, e3, ll]
      by_cases h0 : n % 60 = 0
      · rw [if_pos (show lN (n % 60) = (0 : Int64) from by rw [h0]; rfl), if_pos h0, ih (i + 1) f c (n / 60) (by omega) (by omega) (by omega)]
      · rw [if_neg (show ¬ lN (n % 60) = (0 : Int64) from fun q => h0 ((pk_lEQ (b := 0) (by omega) (by decide)).mp q)), if_neg h0, ih (i + 1) f (c + 1) (n / 60) (by omega) (by omega) (by omega), List.length_cons, show c + 1 + (ll j (n / 60)).length = c + ((ll j (n / 60)).length + 1) by omega]
theorem q_sl {n : Nat} (hn : n < 2 ^ 62) : mX1_sightLength (lN n) = some (nI (sc n)) := by
  rw [mX1_sightLength]
  have := q_sl_loop (fun y => some y) 8 0 kN 0 n rfl (by decide) hn
  rw [Nat.zero_add] at this
  exact this
/-- like -/
theorem op_like (p : Int64) (d i : Int32) : ∃ r, mX6_like p d i = some r ∧ mX7_like p d i = some r := by
  rcases q_dom p with ⟨h1, h2⟩ | ⟨v, ha, hb, rfl, h1, h2⟩
  · refine ⟨-1000000000000000002, ?_, ?_⟩
    · rw [mX6_like, h1]; rfl
    · rw [mX7_like, h2]; rfl
  rw [mX6_like, h1, Option.bind_some, if_neg h10]
  rw [mX7_like, h2, Option.bind_some, if_neg h10, show mX7_in (Int32.toInt64 d) 1 8 = mX7_in (Int32.toInt64 d) (lN 1) (lN 8) from rfl]
  rcases q_inR d (a := 1) (b := 8) (by decide) (by decide) with ⟨hz, hc⟩ | ⟨e, he1, he2, rfl, hz⟩
  · rw [hz, Option.bind_some, if_pos (show (0 : Int32) = 0 from rfl)]
    refine ⟨-1000000000000000002, ?_, rfl⟩
    by_cases h : d < 1
    · rw [if_pos h]
    · rw [if_neg h, if_neg (ile_nlt (show (8 : Int32) < d from hc.resolve_left h))]
  · rw [hz, Option.bind_some, if_neg h10, if_neg (show ¬ nI e < (1 : Int32) from ilt_nlt ((nI_leI (a := 1) (by decide) (by omega)).mpr he1)), if_pos (show nI e ≤ (8 : Int32) from (nI_leI (b := 8) (by omega) (by decide)).mpr he2), q_sl (by omega), Option.bind_some]
    obtain ⟨e', rfl⟩ : ∃ z, e = z + 1 := ⟨e - 1, by omega⟩
    have hD : 2 ^ (e' + 1) = 2 * 2 ^ e' := by rw [Nat.pow_succ, Nat.mul_comm]
    have hle : 2 ^ e' ≤ 2 ^ 7 := Nat.pow_le_pow_right (by decide) (by omega)
    have e7 : (2 : Nat) ^ 7 = 128 := by decide
    have hk5 : kN = 5000 := rfl
    have hpw : 0 < 2 ^ e' := Nat.pow_pos (by decide)
    obtain ⟨r, r1, r2⟩ := q_like_loop ha hb he2 hD i (fun y => if i = (-1 : Int32) then some (Int32.toInt64 y) else some (-1000000000000000006)) (fun c => by by_cases h : i = -1 <;> simp [h]) (2 ^ e') 0 kN (kN + 1) 0 (by omega) (by omega) (by omega)
    rw [q_even_place hb he2 hD hpw] at r2
    exact ⟨r, r1, r2⟩
