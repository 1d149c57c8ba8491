/-! UNITS -/
theorem q_inR (x : Int32) {a b : Nat} (hab : a ≤ b) (hb : b < 2 ^ 31) : (mX7_in (Int32.toInt64 x) (lN a) (lN b) = some 0 ∧ (x < nI a ∨ nI b < x)) ∨ ∃ j, a ≤ j ∧ j ≤ b ∧ x = nI j ∧ mX7_in (Int32.toInt64 x) (lN a) (lN b) = some 1 := by
  have ea : (lN a).toInt = a := pk_lT (by omega)
  have eb : (lN b).toInt = b := pk_lT (by omega)
  have eai : (nI a).toInt = a := nI_toInt (by omega)
  have ebi : (nI b).toInt = b := nI_toInt (by omega)
  have hx := Int32.toInt_toInt64 x
  by_cases h : (a : Int) ≤ x.toInt ∧ x.toInt ≤ b
  · right
    refine ⟨x.toInt.toNat, by omega, by omega, i32_of (by omega) (by omega), ?_⟩
    rw [q_in, if_pos]
    rw [Int64.le_iff_toInt_le, Int64.le_iff_toInt_le, hx, ea, eb]
    exact h
  · left
    refine ⟨?_, ?_⟩
    · rw [q_in, if_neg]
      rw [Int64.le_iff_toInt_le, Int64.le_iff_toInt_le, hx, ea, eb]
      exact h
    · rw [Int32.lt_iff_toInt_lt, Int32.lt_iff_toInt_lt, eai, ebi]
      omega
theorem ile_nlt {a b : Int32} (h : b < a) : ¬ a ≤ b := by
  rw [Int32.lt_iff_toInt_lt] at h
  rw [Int32.le_iff_toInt_le]
  omega
theorem ilt_nlt {a b : Int32} (h : a ≤ b) : ¬ b < a := by
  rw [Int32.le_iff_toInt_le] at h
  rw [Int32.lt_iff_toInt_lt]
  omega
def stepRel (xs : Nat → Int32) (xc : Int32) (mc : Int32) (ms : Nat → Int32) : Prop := ∃ k : Nat, k ≤ 5 ∧ xc = nI k ∧ mc = nI k ∧ ∀ i, i < k → ∃ v : Nat, 2 ≤ v ∧ v ≤ 100 ∧ xs i = nI v ∧ ms i = nI v
theorem op_unit {xs ms : Nat → Int32} {xc mc : Int32} (h : stepRel xs xc mc ms) (p : Int32) : ∃ r xs' xc' mc' ms', mX6_unit xs xc p = some (r, xs', xc') ∧ mX7_unit mc ms p = some (r, mc', ms') ∧ stepRel xs' xc' mc' ms' := by
  obtain ⟨k, hk, rfl, rfl, hs⟩ := h
  rw [mX6_unit, mX7_unit]
  rcases q_inR p (a := 2) (b := 100) (by decide) (by decide) with ⟨hz, hc⟩ | ⟨j, hj1, hj2, rfl, hz⟩
  · refine ⟨-2, xs, nI k, nI k, ms, ?_, ?_, ⟨k, hk, rfl, rfl, hs⟩⟩
    · by_cases h2 : p < 2
      · rw [if_pos h2]
      · rw [if_neg h2, if_neg (ile_nlt (show (100 : Int32) < p from hc.resolve_left h2))]
    · rw [show (2 : Int64) = lN 2 from rfl, show (100 : Int64) = lN 100 from rfl, hz]
      rfl
  · rw [show (2 : Int64) = lN 2 from rfl, show (100 : Int64) = lN 100 from rfl, hz, Option.bind_some, if_neg h10]
    rw [if_neg (show ¬ nI j < (2 : Int32) from ilt_nlt ((nI_leI (a := 2) (by decide) (by omega)).mpr hj1)), if_pos (show nI j ≤ (100 : Int32) from (nI_leI (b := 100) (by omega) (by decide)).mpr hj2), if_neg (nI_pos (by omega))]
    by_cases h5 : k = 5
    · subst h5
      exact ⟨_, _, _, _, _, rfl, rfl, ⟨5, by decide, rfl, rfl, hs⟩⟩
    · rw [if_pos (show nI k < (5 : Int32) from (nI_ltI (b := 5) (by omega) (by decide)).mpr (by omega)), if_neg (nI_in (N := 5) (by omega) (by decide)), if_neg (show ¬ nI k = (5 : Int32) from fun q => h5 ((nI_eq (b := 5) (by omega) (by decide)).mp q)), if_neg (nI_in (N := 5) (by omega) (by decide))]
      have e3 : nI k + (1 : Int32) = nI (k + 1) := nI_1 k
      simp only [md_let, e3]
      rw [nI_clamp (by omega)]
      refine ⟨_, _, _, _, _, rfl, rfl, ⟨k + 1, by omega, rfl, rfl, fun i hi => ?_⟩⟩
      by_cases hik : i = k
      · subst hik
        exact ⟨j, hj1, hj2, pk_us, pk_us⟩
      · obtain ⟨v, h1, h2, h3, h4⟩ := hs i (by omega)
        exact ⟨v, h1, h2, by rw [pk_un hik]; exact h3, by rw [pk_un hik]; exact h4⟩
theorem op_wipe {xs ms : Nat → Int32} {xc mc : Int32} (h : stepRel xs xc mc ms) : ∃ r xc' mc', mX6_wipe xc = some (r, xc') ∧ mX7_wipe mc = some (r, mc') ∧ stepRel xs xc' mc' ms := by
  obtain ⟨k, hk, rfl, rfl, hs⟩ := h
  exact ⟨nI k, 0, 0, rfl, rfl, ⟨0, by decide, rfl, rfl, fun i hi => absurd hi (by omega)⟩⟩
theorem q_dom0 (p : Int64) : ((p < 0 ∨ ¬ p < 167961600000000) ∧ mX7_in p 0 167961599999999 = some 0) ∨ ∃ n, n < 167961600000000 ∧ p = lN n ∧ mX7_in p 0 167961599999999 = some 1 := by
  have e0 : (0 : Int64).toInt = 0 := by decide
  have e1 : (167961600000000 : Int64).toInt = 167961600000000 := by decide
  have e2 : (167961599999999 : Int64).toInt = 167961599999999 := by decide
  by_cases h : 0 ≤ p.toInt ∧ p.toInt ≤ 167961599999999
  · right
    obtain ⟨k, hk, rfl⟩ := pk_lOf (x := p) (by rw [Int64.lt_iff_toInt_lt]; omega)
    have e := pk_lT hk
    refine ⟨k, by omega, rfl, ?_⟩
    rw [q_in, if_pos]
    rw [Int64.le_iff_toInt_le, Int64.le_iff_toInt_le, e0, e2]
    exact h
  · left
    refine ⟨?_, ?_⟩
    · rw [Int64.lt_iff_toInt_lt, Int64.lt_iff_toInt_lt, e0, e1]; omega
    · rw [q_in, if_neg]
      rw [Int64.le_iff_toInt_le, Int64.le_iff_toInt_le, e0, e2]
      exact h
theorem q_units_loop {xs ms : Nat → Int32} {k j : Nat} (hk : k ≤ 5) (hj : j ≤ k) (hs : ∀ i, i < k → ∃ v : Nat, 2 ≤ v ∧ v ≤ 100 ∧ xs i = nI v ∧ ms i = nI v) (kE kF : Int64 → Option Int64) : ∀ (d i f g n : Nat), i + d = j → d < f → d < g → n < 167961600000000 → ∃ n', n' < 167961600000000 ∧ mlX6_units_40 (nI j) xs kE f (lN n) (nI i) = kE (lN n') ∧ mlX7_units_39 (nI j) ms kF g (lN n) (nI i) = kF (lN n') := by
  intro d
  induction d with
  | zero =>
    intro i f g n hi hf hg hn
    obtain ⟨f, rfl⟩ : ∃ z, f = z + 1 := ⟨f - 1, by omega⟩
    obtain ⟨g, rfl⟩ : ∃ z, g = z + 1 := ⟨g - 1, by omega⟩
    rw [mlX6_units_40, mlX7_units_39, if_pos ((nI_leI (by omega) (by omega)).mpr (by omega)), if_pos ((nI_leI (by omega) (by omega)).mpr (by omega))]
    exact ⟨n, hn, rfl, rfl⟩
  | succ d ih =>
    intro i f g n hi hf hg hn
    obtain ⟨f, rfl⟩ : ∃ z, f = z + 1 := ⟨f - 1, by omega⟩
    obtain ⟨g, rfl⟩ : ∃ z, g = z + 1 := ⟨g - 1, by omega⟩
    obtain ⟨v, h1, h2, h3, h4⟩ := hs i (by omega)
    have hc : ¬ nI j ≤ nI i := fun q => by have := (nI_leI (by omega) (by omega)).mp q; omega
    have hin := nI_in (c := i) (N := 5) (by omega) (by decide)
    have hin2 : ¬ (nI i < 0 ∨ 5 ≤ i) := by rw [nI_clamp (by omega)] at hin; exact hin
    have el : (nI v).toInt64 = lN v := nI_l (by omega)
    have hne : ¬ lN v = (0 : Int64) := fun q => by have := (pk_lEQ (b := 0) (by omega) (by decide)).mp q; omega
    have e3 : nI i + (1 : Int32) = nI (i + 1) := nI_1 i
    rw [mlX6_units_40, mlX7_units_39, if_neg hc, if_neg hc, if_neg (show ¬ (5 : Int32) ≤ nI i from fun q => by have := (nI_leI (a := 5) (by decide) (by omega)).mp q; omega), if_neg hin, if_neg hin, nI_clamp (by omega), h3, h4, el]
    simp only [md_jn, md_let, e3]
    rw [if_neg (nI_nle (by omega) (by omega)), if_neg hin2, if_neg hne, if_neg hne, pk_lDiv (by omega) (by omega) (by omega)]
    exact ih (i + 1) f g (n / v) (by omega) (by omega) (by omega) (Nat.lt_of_le_of_lt (Nat.div_le_self _ _) hn)
theorem op_units {xs ms : Nat → Int32} {xc mc : Int32} (h : stepRel xs xc mc ms) (p : Int64) (i : Int32) : ∃ r, mX6_units xs xc p i = some r ∧ mX7_units mc ms p i = some r := by
  obtain ⟨k, hk, rfl, rfl, hs⟩ := h
  rw [mX6_units, mX7_units, show (nI k).toInt64 = lN k from nI_l (by omega)]
  rcases q_inI i (n := k) (by omega) with ⟨hz, hc, -⟩ | ⟨j, hj, rfl, hz⟩
  · rw [hz, Option.bind_some, if_pos (show (0 : Int32) = 0 from rfl)]
    refine ⟨-1000000000000000001, ?_, rfl⟩
    by_cases h0 : i < 0
    · rw [if_pos h0]
    · rw [if_neg h0, if_neg]
      intro q
      have h4 := hc.resolve_left h0
      rw [Int32.le_iff_toInt_le] at h4 q
      rw [nI_toInt (by omega)] at h4 q
      omega
  · rw [hz, Option.bind_some, if_neg h10, if_neg (nI_pos (by omega)), if_pos ((nI_leI (by omega) (by omega)).mpr hj)]
    rcases q_dom0 p with ⟨hc, hz2⟩ | ⟨n, hn, rfl, hz2⟩
    · rw [hz2, Option.bind_some, if_pos (show (0 : Int32) = 0 from rfl)]
      refine ⟨-1000000000000000002, ?_, rfl⟩
      by_cases h0 : p < 0
      · rw [if_pos h0]
      · rw [if_neg h0, if_neg (hc.resolve_left h0)]
    · rw [hz2, Option.bind_some, if_neg h10, if_neg (show ¬ lN n < (0 : Int64) from fun q => by have := (pk_lLT (b := 0) (by omega) (by decide)).mp q; omega), if_pos (show lN n < (167961600000000 : Int64) from (pk_lLT (b := 167961600000000) (by omega) (by decide)).mpr hn)]
      obtain ⟨n', hn', e1, e2⟩ := q_units_loop hk hj hs (fun (y4_90 : Int64) => (if nI k ≤ nI j then (some y4_90) else (if (5 : Int32) ≤ nI j then (some y4_90) else (if nI j < 0 ∨ 5 ≤ (Int32.toNatClampNeg (nI j)) then none else (if (xs (Int32.toNatClampNeg (nI j))) ≤ 0 then (some y4_90) else (if nI j < 0 ∨ 5 ≤ (Int32.toNatClampNeg (nI j)) then none else (if (Int32.toInt64 (xs (Int32.toNatClampNeg (nI j)))) = 0 then none else (some (y4_90 - y4_90 / (Int32.toInt64 (xs (Int32.toNatClampNeg (nI j)))) * (Int32.toInt64 (xs (Int32.toNatClampNeg (nI j)))))))))))))
        (fun (y4_64 : Int64) => (if nI j = nI k then (some y4_64) else (if nI j < 0 ∨ 5 ≤ (Int32.toNatClampNeg (nI j)) then none else (if (Int32.toInt64 (ms (Int32.toNatClampNeg (nI j)))) = 0 then none else (some (y4_64 - y4_64 / (Int32.toInt64 (ms (Int32.toNatClampNeg (nI j)))) * (Int32.toInt64 (ms (Int32.toNatClampNeg (nI j)))))))))) j 0 kN kN n (by omega) (by have : kN = 5000 := rfl; omega) (by have : kN = 5000 := rfl; omega) hn
      by_cases hjk : j = k
      · subst hjk
        refine ⟨lN n', e1.trans ?_, e2.trans ?_⟩
        · rw [if_pos ((nI_leI (by omega) (by omega)).mpr (Nat.le_refl _))]
        · rw [if_pos rfl]
      · obtain ⟨v, h1, h2, h3, h4⟩ := hs j (by omega)
        have hin := nI_in (c := j) (N := 5) (by omega) (by decide)
        have hin2 : ¬ (nI j < 0 ∨ 5 ≤ j) := by rw [nI_clamp (by omega)] at hin; exact hin
        have el : (nI v).toInt64 = lN v := nI_l (by omega)
        have hne : ¬ lN v = (0 : Int64) := fun q => by have := (pk_lEQ (b := 0) (by omega) (by decide)).mp q; omega
        refine ⟨lN n' - lN n' / lN v * lN v, e1.trans ?_, e2.trans ?_⟩
        · rw [if_neg (fun q => by have := (nI_leI (by omega) (by omega)).mp q; omega), if_neg (show ¬ (5 : Int32) ≤ nI j from fun q => by have := (nI_leI (a := 5) (by decide) (by omega)).mp q; omega), if_neg hin, nI_clamp (by omega), h3, if_neg (nI_nle (by omega) (by omega)), if_neg hin2, el, if_neg hne]
        · rw [if_neg (fun q => hjk ((nI_eq (by omega) (by omega)).mp q)), if_neg hin, nI_clamp (by omega), h4, el, if_neg hne]
/-! PROBLEMS -/
theorem lN_neg {a b : Nat} (h : a < b) (hb : b < 2 ^ 62) : lN a - lN b < (0 : Int64) := by
  rw [Int64.lt_iff_toInt_lt, Int64.toInt_sub, pk_lT (by omega), pk_lT (by omega)]
  have e0 : (0 : Int64).toInt = 0 := by decide
  rw [e0, Int.bmod_eq_of_le (by omega) (by omega)]
  omega
theorem q_isP (x : Int32) : (mX6_isInProblem x = some 0 ∧ mX7_isCount x = some 0) ∨ ∃ n, 1 ≤ n ∧ n ≤ 1000000 ∧ x = nI n ∧ mX6_isInProblem x = some 1 ∧ mX7_isCount x = some 1 := by
  rw [mX6_isInProblem, mX7_isCount, show (1 : Int64) = lN 1 from rfl, show (1000000 : Int64) = lN 1000000 from rfl]
  rcases q_inR x (a := 1) (b := 1000000) (by decide) (by decide) with ⟨hz, hc⟩ | ⟨j, hj1, hj2, rfl, hz⟩
  · left
    rw [hz]
    refine ⟨?_, rfl⟩
    by_cases h : x < 1
    · rw [if_pos h]
    · rw [if_neg h, if_pos (show (1000000 : Int32) < x from hc.resolve_left h)]
  · right
    refine ⟨j, hj1, hj2, rfl, ?_, by rw [hz]; rfl⟩
    rw [if_neg (show ¬ nI j < (1 : Int32) from ilt_nlt ((nI_leI (a := 1) (by decide) (by omega)).mpr hj1)), if_neg (show ¬ (1000000 : Int32) < nI j from ilt_nlt ((nI_leI (b := 1000000) (by omega) (by decide)).mpr hj2))]
theorem q_only {n : Nat} (hn : n < 2 ^ 62) (p4 : Int32) : mX6_onlyAnswer (lN n) p4 = if 0 < n then (if p4 = 0 then some (lN n) else some 0) else some (-1000000000000000005) := by
  rw [mX6_onlyAnswer]
  by_cases h : 0 < n
  · rw [if_pos (show (0 : Int64) < lN n from (pk_lLT (a := 0) (by decide) (by omega)).mpr h), if_pos h]
  · rw [if_neg (show ¬ (0 : Int64) < lN n from fun q => h ((pk_lLT (a := 0) (by decide) (by omega)).mp q)), if_neg h]
theorem q_lpos {n : Nat} (hn : n < 2 ^ 62) : ((0 : Int64) < lN n) ↔ 0 < n := pk_lLT (a := 0) (by decide) (by omega)
theorem q_half {a b : Nat} (h : b ≤ a) (h2 : (a - b) % 2 = 0) : a - (a - b) / 2 = (a + b) / 2 ∧ b + (a - b) / 2 = (a + b) / 2 := by omega
