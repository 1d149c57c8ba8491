/-! WORKINGS -/
def lineRel (xX xY xP mp mq mX mY : Nat → Int32) (i : Nat) : Prop := ∃ a b q : Nat, 1 ≤ a ∧ a < 60 ∧ 1 ≤ b ∧ b < 60 ∧ q ≤ 6 ∧ xX i = nI a ∧ mX i = nI a ∧ xY i = nI b ∧ mY i = nI b ∧ xP i = nI q ∧ mq i = nI q ∧ mp i = nI (a * b)
/-- the working of the class and of the reference: the same lines -/
def workRel (xX xY xP : Nat → Int32) (xl : Int32) (mw ml : Int32) (mp mq mX mY : Nat → Int32) : Prop := ∃ k : Nat, k ≤ 16 ∧ xl = nI k ∧ ml = nI k ∧ (mw = 0 ↔ k = 0) ∧ ∀ i, i < k → lineRel xX xY xP mp mq mX mY i
theorem q_line {k : Nat} (hk : k ≤ 16) (p : Int32) : (mX5_hasLine (nI k) p = some 0 ∧ mX7_isLine (nI k) p = some 0) ∨ ∃ j, j < k ∧ p = nI j ∧ mX5_hasLine (nI k) p = some 1 ∧ mX7_isLine (nI k) p = some 1 := by
  rw [mX5_hasLine, mX7_isLine]
  rcases Nat.eq_zero_or_pos k with rfl | hk0
  · left
    have hin : mX7_in (Int32.toInt64 p) 0 (Int32.toInt64 (nI 0 - (1 : Int32))) = some 0 := by
      rw [q_in, if_neg]
      rw [Int64.le_iff_toInt_le, Int64.le_iff_toInt_le, Int32.toInt_toInt64, Int32.toInt_toInt64]
      have e0 : (0 : Int64).toInt = 0 := by decide
      have e1 : (nI 0 - (1 : Int32)).toInt = -1 := by decide
      omega
    rw [hin]
    refine ⟨?_, rfl⟩
    by_cases h : p < 0
    · rw [if_pos h]
    · rw [if_neg h, if_pos]
      rw [Int32.lt_iff_toInt_lt] at h
      rw [Int32.le_iff_toInt_le]
      have e0 : (0 : Int32).toInt = 0 := by decide
      have e1 : (nI 0).toInt = 0 := by decide
      omega
  · have e1 : nI k - (1 : Int32) = nI (k - 1) := pk_sub (a := k) (b := 1) hk0
    have e2 : (nI (k - 1)).toInt64 = lN (k - 1) := nI_l (by omega)
    rw [e1, e2]
    rcases q_inI p (n := k - 1) (by omega) with ⟨hz, hc, -⟩ | ⟨j, hj, rfl, hz⟩
    · left
      rw [hz]
      refine ⟨?_, rfl⟩
      by_cases h : p < 0
      · rw [if_pos h]
      · rw [if_neg h, if_pos]
        have := hc.resolve_left h
        rw [show k - 1 + 1 = k by omega] at this
        exact this
    · right
      refine ⟨j, by omega, rfl, ?_, by rw [hz]; rfl⟩
      rw [if_neg (nI_pos (by omega)), if_neg (show ¬ nI k ≤ nI j from fun q => by have := (nI_leI (by omega) (by omega)).mp q; omega), if_neg (show ¬ (16 : Int32) ≤ nI j from fun q => by have := (nI_leI (a := 16) (by decide) (by omega)).mp q; omega)]
theorem q_lineX {k j : Nat} (hk : k ≤ 16) (hj : j < k) : mX5_hasLine (nI k) (nI j) = some 1 := by
  rw [mX5_hasLine, if_neg (nI_pos (by omega)), if_neg (show ¬ nI k ≤ nI j from fun q => by have := (nI_leI (by omega) (by omega)).mp q; omega), if_neg (show ¬ (16 : Int32) ≤ nI j from fun q => by have := (nI_leI (a := 16) (by decide) (by omega)).mp q; omega)]
theorem q_dX {f : Nat → Int32} {k j : Nat} (hk : k ≤ 16) (hj : j < k) : mX5_digitOfX f (nI k) (nI j) = some (f j) := by
  rw [mX5_digitOfX, q_lineX hk hj, Option.bind_some, if_neg h10, if_neg (nI_in (N := 16) (by omega) (by decide)), nI_clamp (by omega)]
theorem q_dY {f : Nat → Int32} {k j : Nat} (hk : k ≤ 16) (hj : j < k) : mX5_digitOfY f (nI k) (nI j) = some (f j) := by
  rw [mX5_digitOfY, q_lineX hk hj, Option.bind_some, if_neg h10, if_neg (nI_in (N := 16) (by omega) (by decide)), nI_clamp (by omega)]
theorem q_pl {f : Nat → Int32} {k j : Nat} (hk : k ≤ 16) (hj : j < k) : mX5_place f (nI k) (nI j) = some (f j) := by
  rw [mX5_place, q_lineX hk hj, Option.bind_some, if_neg h10, if_neg (nI_in (N := 16) (by omega) (by decide)), nI_clamp (by omega)]
theorem q_pr {f g : Nat → Int32} {k j : Nat} (hk : k ≤ 16) (hj : j < k) : mX5_product f g (nI k) (nI j) = some (f j * g j) := by
  rw [mX5_product, q_dX hk hj, q_dY hk hj, Option.bind_some, Option.bind_some]
/-- line -/
theorem op_line {xX xY xP mp mq mX mY : Nat → Int32} {xl mw ml : Int32} (h : workRel xX xY xP xl mw ml mp mq mX mY) (i w : Int32) : ∃ r, mX6_line xX xY xP xl i w = some r ∧ mX7_line ml mp mq mX mY i w = some r := by
  obtain ⟨k, hk, rfl, rfl, -, hs⟩ := h
  rw [mX6_line, mX7_line]
  rcases q_line hk i with ⟨h1, h2⟩ | ⟨j, hj, rfl, h1, h2⟩
  · rw [h1, h2]; exact ⟨_, rfl, rfl⟩
  · obtain ⟨a, b, q, -, -, -, -, -, x1, m1, x2, m2, x3, m3, m4⟩ := hs j hj
    have hin := nI_in (c := j) (N := 16) (by omega) (by decide)
    rw [h1, h2, Option.bind_some, Option.bind_some, if_neg h10, if_neg h10, if_neg hin, if_neg hin, if_neg hin, if_neg hin, nI_clamp (by omega), q_pr hk hj, q_pl hk hj, q_dX hk hj, q_dY hk hj, x1, x2, x3, m1, m2, m3, m4, pk_mul]
    simp only [Option.bind_some]
    by_cases w0 : w = 0
    · rw [if_pos w0]; exact ⟨_, rfl, rfl⟩
    rw [if_neg w0]
    by_cases w1 : w = 1
    · rw [if_pos w1]; exact ⟨_, rfl, rfl⟩
    rw [if_neg w1]
    by_cases w2 : w = 2
    · rw [if_pos w2]; exact ⟨_, rfl, rfl⟩
    rw [if_neg w2]
    by_cases w3 : w = 3
    · rw [if_pos w3]; exact ⟨_, rfl, rfl⟩
    rw [if_neg w3]
    exact ⟨_, rfl, rfl⟩
theorem q_ap_loop (kE : Int64 → Option Int64) (k : Nat) (hk : k ≤ 8) : ∀ (j i f n : Nat), i + j = k → j < f → mlX1_atPlace_5 (nI k) kE f (lN n) (nI i) = kE (lN (n * 60 ^ j)) := by
  intro j
  induction j with
  | zero =>
    intro i f n hi hf
    obtain ⟨f, rfl⟩ : ∃ g, f = g + 1 := ⟨f - 1, by omega⟩
    rw [mlX1_atPlace_5, if_pos ((nI_leI (by omega) (by omega)).mpr (by omega)), Nat.pow_zero, Nat.mul_one]
  | succ j ih =>
    intro i f n hi hf
    obtain ⟨f, rfl⟩ : ∃ g, f = g + 1 := ⟨f - 1, by omega⟩
    rw [mlX1_atPlace_5, if_neg (fun q => by have := (nI_leI (by omega) (by omega)).mp q; omega), if_neg (show ¬ (8 : Int32) ≤ nI i from fun q => by have := (nI_leI (a := 8) (by decide) (by omega)).mp q; omega)]
    have e1 : lN n * (60 : Int64) = lN (n * 60) := lN_mul n 60
    have e3 : nI i + (1 : Int32) = nI (i + 1) := nI_1 i
    rw [md_letP, md_letP, e1, e3, ih (i + 1) f (n * 60) (by omega) (by omega), Nat.pow_succ, Nat.mul_comm (60 ^ j), Nat.mul_assoc]
theorem q_ap {n k : Nat} (hk : k ≤ 8) : mX1_atPlace (lN n) (nI k) = some (lN (n * 60 ^ k)) := q_ap_loop _ k hk k 0 kN n (by omega) (by have : kN = 5000 := rfl; omega)
