theorem rfin_neg (pl : Int32) : rfin pl (-6) = some (-6) := by rw [rfin, if_neg (by decide)]
theorem rfin_pos {q n : Nat} (hq : q ≤ 10) (hn : n < 2 ^ 31) : rfin (nI q) (nI n) = some (lN (n * 60 ^ q)) := by
  rw [rfin, if_pos (nI_pos' hn), q_power hq, Option.bind_some, show (nI n).toInt64 = lN n from nI_l hn, lN_mul]
section XSL
variable {xX xY xP mp mq mX mY : Nat → Int32} {k : Nat}
abbrev slOK (xX xY xP mp mq mX mY : Nat → Int32) (k j : Nat) (c w : Int32) : Prop := (mX5_slipped xX xY xP (nI k) (nI j) c w = some (-1) ∧ mX7_slipped mp mq mX mY (nI j) c w = some (-6)) ∨ ∃ n, n < 2 ^ 60 ∧ mX5_slipped xX xY xP (nI k) (nI j) c w = some (lN n) ∧ mX7_slipped mp mq mX mY (nI j) c w = some (lN n)
theorem sl_bd {n q : Nat} (hn : n ≤ 250000) (hq : q ≤ 6) : n * 60 ^ q < 2 ^ 60 := by
  have h1 : 60 ^ q ≤ 60 ^ 6 := Nat.pow_le_pow_right (by decide) hq
  have e6 : (60 : Nat) ^ 6 = 46656000000 := by decide
  have := Nat.mul_le_mul hn h1
  omega
theorem q_sl00 (hk : k ≤ 16) {j : Nat} (hj : j < k) (h : lineRel xX xY xP mp mq mX mY j) : slOK xX xY xP mp mq mX mY k j 0 0 := by
  obtain ⟨a, b, q, h1, h2, h3, h4, h5, x1, m1, x2, m2, x3, m3, m4⟩ := h
  have hab : a * b ≤ 59 * 59 := Nat.mul_le_mul (by omega) (by omega)
  have hin := nI_in (c := j) (N := 16) (by omega) (by decide)
  have hX : mX5_slipped xX xY xP (nI k) (nI j) 0 0 = if nI (a * b / 60) = 0 then some (-1) else some (lN (a * b % 60 * 60 ^ q)) := by
    rw [mX5_slipped, mX5_leftOut]
    simp only [md_jnP, md_letP, q_pr hk hj, q_pl hk hj, Option.bind_some, w00, w01, if_true, if_false, bind_id, x1, x2, x3, pk_mul]
    rw [show nI (a * b) - nI (a * b) / (60 : Int32) * (60 : Int32) = nI (a * b % 60) from pk_rem (d := 60) (by omega) (by decide) (by decide), show nI (a * b) / (60 : Int32) = nI (a * b / 60) from pk_div (d := 60) (by omega) (by decide) (by decide), show (nI (a * b % 60)).toInt64 = lN (a * b % 60) from nI_l (by omega), q_ap (by omega)]
  have hR : mX7_slipped mp mq mX mY (nI j) 0 0 = if nI (a * b / 60) ≤ 0 then some (-6) else some (lN (a * b % 60 * 60 ^ q)) := by
    rw [r_00 hin, nI_clamp (by omega), m3, m4, rfin_neg, show nI (a * b) - nI (a * b) / (60 : Int32) * (60 : Int32) = nI (a * b % 60) from pk_rem (d := 60) (by omega) (by decide) (by decide), show nI (a * b) / (60 : Int32) = nI (a * b / 60) from pk_div (d := 60) (by omega) (by decide) (by decide), rfin_pos (by omega) (by omega)]
  rw [slOK, hX, hR]
  by_cases h0 : a * b / 60 = 0
  · left
    rw [h0]
    exact ⟨if_pos rfl, if_pos (by decide)⟩
  · right
    exact ⟨_, sl_bd (by omega) h5, if_neg (nI_ne0 (by omega) (by omega)), if_neg (nI_nle (by omega) (by omega))⟩
end XSL
