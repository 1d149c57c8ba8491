/-- slip -/
theorem op_slip {xX xY xP mp mq mX mY : Nat → Int32} {xl mw ml : Int32} (h : workRel xX xY xP xl mw ml mp mq mX mY) (i c w j : Int32) : ∃ r, mX6_slip xX xY xP xl i c w j = some r ∧ mX7_slip ml mp mq mX mY i c w j = some r := by
  obtain ⟨k, hk, rfl, rfl, -, hs⟩ := h
  rw [mX6_slip, mX7_slip]
  rcases q_line hk i with ⟨h1, h2⟩ | ⟨i, hi, rfl, h1, h2⟩
  · rw [h1, h2]; exact ⟨_, rfl, rfl⟩
  rw [h1, h2, Option.bind_some, Option.bind_some, if_neg h10, if_neg h10]
  rcases q_line hk j with ⟨h3, h4⟩ | ⟨j, hj, rfl, h3, h4⟩
  · rw [h3, h4]; exact ⟨_, rfl, rfl⟩
  rw [h3, h4, Option.bind_some, Option.bind_some, if_neg h10, if_neg h10]
  rcases q_inI c (n := 3) (by decide) with ⟨hz, hc, -⟩ | ⟨c, hc, rfl, hz⟩
  · rw [show mX7_in (Int32.toInt64 c) 0 3 = some 0 from hz, Option.bind_some, if_pos (show (0 : Int32) = 0 from rfl)]
    refine ⟨-1000000000000000002, ?_, rfl⟩
    by_cases h0 : c < 0
    · rw [if_pos h0]
    · rw [if_neg h0, if_pos (show (4 : Int32) ≤ c from hc.resolve_left h0)]
  rw [show mX7_in (Int32.toInt64 (nI c)) 0 3 = some 1 from hz, Option.bind_some, if_neg h10, if_neg (nI_pos (by omega)), if_neg (show ¬ (4 : Int32) ≤ nI c from fun q => by have := (nI_leI (a := 4) (by decide) (by omega)).mp q; omega)]
  rcases q_inI w (n := 1) (by decide) with ⟨hz, hc1, -⟩ | ⟨w, hw, rfl, hz⟩
  · rw [show mX7_in (Int32.toInt64 w) 0 1 = some 0 from hz, Option.bind_some, if_pos (show (0 : Int32) = 0 from rfl)]
    refine ⟨-1000000000000000002, ?_, rfl⟩
    by_cases h0 : w < 0
    · rw [if_pos h0]
    · rw [if_neg h0, if_neg (ilt_nlt (show (2 : Int32) ≤ w from hc1.resolve_left h0))]
  rw [show mX7_in (Int32.toInt64 (nI w)) 0 1 = some 1 from hz, Option.bind_some, if_neg h10, if_neg (nI_pos (by omega)), if_pos (show nI w < (2 : Int32) from (nI_ltI (b := 2) (by omega) (by decide)).mpr (by omega))]
  obtain ⟨s, e1, e2⟩ := q_sum hk hs hj
  obtain ⟨v, hv, e3, e4⟩ := q_worth hk hi (hs i hi)
  rcases q_slAll hk hi (hs i hi) (c := c) (w := w) (by omega) (by omega) with ⟨g1, g2⟩ | ⟨n, hn, g1, g2⟩
  · rw [g1, g2, Option.bind_some, Option.bind_some, if_pos (show (-1 : Int64) = -1 from rfl), if_neg (show ¬ (0 : Int64) ≤ -6 by decide)]
    exact ⟨_, rfl, rfl⟩
  · have hne : ¬ lN n = (-1 : Int64) := fun q => by
      have : (lN n).toInt = (-1 : Int64).toInt := by rw [q]
      rw [pk_lT (by omega)] at this
      have em : (-1 : Int64).toInt = -1 := by decide
      omega
    rw [g1, g2, Option.bind_some, Option.bind_some, if_neg hne, if_pos (show (0 : Int64) ≤ lN n from (pk_lLE (a := 0) (by decide) (by omega)).mpr (by omega)), e1, e2, e3, e4]
    simp only [Option.bind_some]
    by_cases hij : nI i ≤ nI j
    · rw [if_pos hij]; exact ⟨_, rfl, rfl⟩
    · rw [if_neg hij]; exact ⟨_, rfl, rfl⟩
