theorem rfin_neg (pl : Int32) : rfin pl (-6) = some (-6) := by rw [rfin, if_neg (by decide)]
theorem rfin_pos {q n : Nat} (hq : q ≤ 10) (hn : n < 2 ^ 31) : rfin (nI q) (nI n) = some (lN (n * 60 ^ q)) := by
  rw [rfin, if_pos (nI_pos' hn), q_power hq, Option.bind_some, show (nI n).toInt64 = lN n from nI_l hn, lN_mul]
section XSL
variable {xX xY xP mp mq mX mY : Nat → Int32} {k : Nat}
abbrev slOK (xX xY xP mp mq mX mY : Nat → Int32) (k j : Nat) (c w : Int32) : Prop := (mX5_slipped xX xY xP (nI k) (nI j) c w = some (-1) ∧ mX7_slipped mp mq mX mY (nI j) c w = some (-6)) ∨ ∃ n, n < 2 ^ 60 ∧ mX5_slipped xX xY xP (nI k) (nI j) c w = some (lN n) ∧ mX7_slipped mp mq mX mY (nI j) c w = some (lN n)
theorem sl_bd {n q : Nat} (hn : n ≤ 250000) (hq : q ≤ 6) : n * 60 ^ q < 2 ^ 60 := by
  have h1 : 60 ^ q ≤ 60 ^ 6 := Nat.pow_le_pow_right (by decide) hq
  have e6 : (60 : Nat) ^ 6 = 46656000000 := by decide
  have := Nat.mul_le_mul hn h1
  omega
theorem q_sl00 (hk : k ≤ 16) {j : Nat} (hj : j < k) (h : lineRel xX xY xP mp mq mX mY j) : slOK xX xY xP mp mq mX mY k j 0 0 := by
  obtain ⟨a, b, q, h1, h2, h3, h4, h5, x1, m1, x2, m2, x3, m3, m4⟩ := h
  have hab : a * b ≤ 59 * 59 := Nat.mul_le_mul (by omega) (by omega)
  have hin := nI_in (c := j) (N := 16) (by omega) (by decide)
  have hX : mX5_slipped xX xY xP (nI k) (nI j) 0 0 = if nI (a * b / 60) = 0 then some (-1) else some (lN (a * b % 60 * 60 ^ q)) := by
    rw [mX5_slipped, mX5_leftOut]
    simp only [md_jnP, md_letP, q_pr hk hj, q_pl hk hj, Option.bind_some, w00, w01, if_true, if_false, bind_id, x1, x2, x3, pk_mul]
    rw [show nI (a * b) - nI (a * b) / (60 : Int32) * (60 : Int32) = nI (a * b % 60) from pk_rem (d := 60) (by omega) (by decide) (by decide), show nI (a * b) / (60 : Int32) = nI (a * b / 60) from pk_div (d := 60) (by omega) (by decide) (by decide), show (nI (a * b % 60)).toInt64 = lN (a * b % 60) from nI_l (by omega), q_ap (by omega)]
  have hR : mX7_slipped mp mq mX mY (nI j) 0 0 = if nI (a * b / 60) ≤ 0 then some (-6) else some (lN (a * b % 60 * 60 ^ q)) := by
    rw [r_00 hin, nI_clamp (by omega), m3, m4, rfin_neg, show nI (a * b) - nI (a * b) / (60 : Int32) * (60 : Int32) = nI (a * b % 60) from pk_rem (d := 60) (by omega) (by decide) (by decide), show nI (a * b) / (60 : Int32) = nI (a * b / 60) from pk_div (d := 60) (by omega) (by decide) (by decide), rfin_pos (by omega) (by omega)]
  rw [slOK, hX, hR]
  by_cases h0 : a * b / 60 = 0
  · left
    rw [h0]
    exact ⟨if_pos rfl, if_pos (by decide)⟩
  · right
    exact ⟨_, sl_bd (by omega) h5, if_neg (nI_ne0 (by omega) (by omega)), if_neg (nI_nle (by omega) (by omega))⟩
theorem q_sl01 (hk : k ≤ 16) {j : Nat} (hj : j < k) (h : lineRel xX xY xP mp mq mX mY j) : slOK xX xY xP mp mq mX mY k j 0 1 := by
  obtain ⟨a, b, q, h1, h2, h3, h4, h5, x1, m1, x2, m2, x3, m3, m4⟩ := h
  have hab : a * b ≤ 59 * 59 := Nat.mul_le_mul (by omega) (by omega)
  have hin := nI_in (c := j) (N := 16) (by omega) (by decide)
  have hX : mX5_slipped xX xY xP (nI k) (nI j) 0 1 = if nI (a * b / 60) = 0 then some (-1) else if nI (a * b % 60) = 0 then some (-1) else some (lN (a * b / 60 * 60 ^ q)) := by
    rw [mX5_slipped, mX5_leftOut]
    simp only [md_jnP, md_letP, q_pr hk hj, q_pl hk hj, Option.bind_some, w00, w10, w11, if_true, if_false, bind_id, x1, x2, x3, pk_mul]
    rw [show nI (a * b) - nI (a * b) / (60 : Int32) * (60 : Int32) = nI (a * b % 60) from pk_rem (d := 60) (by omega) (by decide) (by decide), show nI (a * b) / (60 : Int32) = nI (a * b / 60) from pk_div (d := 60) (by omega) (by decide) (by decide), show (nI (a * b / 60)).toInt64 = lN (a * b / 60) from nI_l (by omega), q_ap (by omega)]
  have hR : mX7_slipped mp mq mX mY (nI j) 0 1 = if nI (a * b / 60) ≤ 0 then some (-6) else if nI (a * b % 60) ≤ 0 then some (-6) else some (lN (a * b / 60 * 60 ^ q)) := by
    rw [r_01 hin, nI_clamp (by omega), m3, m4, rfin_neg, show nI (a * b) - nI (a * b) / (60 : Int32) * (60 : Int32) = nI (a * b % 60) from pk_rem (d := 60) (by omega) (by decide) (by decide), show nI (a * b) / (60 : Int32) = nI (a * b / 60) from pk_div (d := 60) (by omega) (by decide) (by decide), rfin_pos (by omega) (by omega)]
  rw [slOK, hX, hR]
  by_cases h0 : a * b / 60 = 0
  · left
    rw [h0]
    exact ⟨if_pos rfl, if_pos (by decide)⟩
  · rw [if_neg (nI_ne0 (by omega) (by omega)), if_neg (nI_nle (by omega) (by omega))]
    by_cases hB : a * b % 60 = 0
    · left
      rw [hB]
      exact ⟨if_pos rfl, if_pos (by decide)⟩
    · right
      exact ⟨_, sl_bd (by omega) h5, if_neg (nI_ne0 (by omega) (by omega)), if_neg (nI_nle (by omega) (by omega))⟩
theorem q_sl10 (hk : k ≤ 16) {j : Nat} (hj : j < k) (h : lineRel xX xY xP mp mq mX mY j) : slOK xX xY xP mp mq mX mY k j 1 0 := by
  obtain ⟨a, b, q, h1, h2, h3, h4, h5, x1, m1, x2, m2, x3, m3, m4⟩ := h
  have hab : a * b ≤ 59 * 59 := Nat.mul_le_mul (by omega) (by omega)
  have hin := nI_in (c := j) (N := 16) (by omega) (by decide)
  have hX : mX5_slipped xX xY xP (nI k) (nI j) 1 0 = if nI q ≤ 0 then some (-1) else Option.bind (mX1_atPlace (lN (a * b)) (nI q - 1)) (fun u => some u) := by
    rw [mX5_slipped, mX5_placeLost]
    simp only [q_pr hk hj, q_pl hk hj, Option.bind_some, w00, w10, w11, if_true, if_false, bind_id, x1, x2, x3, pk_mul]
    rw [show (nI (a * b)).toInt64 = lN (a * b) from nI_l (by omega)]
  have hR := r_10 (mp := mp) (mq := mq) (mX := mX) (mY := mY) hin
  rw [nI_clamp (by omega), m3, m4, show (nI (a * b)).toInt64 = lN (a * b) from nI_l (by omega)] at hR
  rw [slOK, hX, hR]
  by_cases h0 : q = 0
  · left
    rw [h0]
    exact ⟨if_pos (by decide), if_pos (by decide)⟩
  · right
    have eq1 : nI q - (1 : Int32) = nI (q - 1) := pk_sub (a := q) (b := 1) (by omega)
    have hn : ¬ nI q ≤ (0 : Int32) := nI_nle (by omega) (by omega)
    refine ⟨a * b * 60 ^ (q - 1), sl_bd (by omega) (by omega), ?_, ?_⟩
    · rw [if_neg hn, eq1, q_ap (by omega), Option.bind_some]
    · rw [if_neg hn, eq1, q_power (by omega), Option.bind_some, lN_mul]
theorem q_sl11 (hk : k ≤ 16) {j : Nat} (hj : j < k) (h : lineRel xX xY xP mp mq mX mY j) : slOK xX xY xP mp mq mX mY k j 1 1 := by
  obtain ⟨a, b, q, h1, h2, h3, h4, h5, x1, m1, x2, m2, x3, m3, m4⟩ := h
  have hab : a * b ≤ 59 * 59 := Nat.mul_le_mul (by omega) (by omega)
  have hin := nI_in (c := j) (N := 16) (by omega) (by decide)
  left
  refine ⟨?_, r_11 hin⟩
  rw [mX5_slipped, mX5_placeLost]
  simp only [w10, w11, if_true, if_false, Option.bind_some]
theorem q_sl20 (hk : k ≤ 16) {j : Nat} (hj : j < k) (h : lineRel xX xY xP mp mq mX mY j) : slOK xX xY xP mp mq mX mY k j 2 0 := by
  obtain ⟨a, b, q, h1, h2, h3, h4, h5, x1, m1, x2, m2, x3, m3, m4⟩ := h
  have hab : a * b ≤ 59 * 59 := Nat.mul_le_mul (by omega) (by omega)
  have hin := nI_in (c := j) (N := 16) (by omega) (by decide)
  have ey : nI b - (1 : Int32) = nI (b - 1) := pk_sub (a := b) (b := 1) (by omega)
  have hay : a * (b - 1) ≤ 59 * 60 := Nat.mul_le_mul (by omega) (by omega)
  have hX : mX5_slipped xX xY xP (nI k) (nI j) 2 0 = if nI (b - 1) < 1 then some (-1) else if nI (b - 1) < 60 then some (lN (a * (b - 1) * 60 ^ q)) else some (-1) := by
    rw [mX5_slipped, mX5_rowBeside]
    simp only [md_jnP, md_letP, q_dX hk hj, q_dY hk hj, q_pl hk hj, Option.bind_some, w00, w10, w11, w20, w21, w22, if_true, if_false, bind_id, x1, x2, x3, ey]
    rw [show (nI a).toInt64 = lN a from nI_l (by omega), show (nI (b - 1)).toInt64 = lN (b - 1) from nI_l (by omega), lN_mul, q_ap (by omega)]
  have hR := r_20 (mp := mp) (mq := mq) (mX := mX) (mY := mY) hin
  rw [nI_clamp (by omega), m1, m2, m3, ey, rfin_neg, pk_mul, rfin_pos (by omega) (by omega)] at hR
  rw [slOK, hX, hR]
  rcases q_inR (nI (b - 1)) (a := 1) (b := 59) (by decide) (by decide) with ⟨hz, hc⟩ | ⟨y, hy1, hy2, hye, hz⟩
  · left
    rw [show mX7_in (Int32.toInt64 (nI (b - 1))) 1 59 = some 0 from hz]
    refine ⟨?_, rfl⟩
    by_cases hl : nI (b - 1) < (1 : Int32)
    · rw [if_pos hl]
    · rw [if_neg hl, if_neg]
      intro z
      have h59 := hc.resolve_left hl
      have z1 := (nI_ltI (b := 60) (by omega) (by decide)).mp z
      have z2 := (nI_ltI (by decide) (by omega)).mp h59
      omega
  · right
    have hye2 := (nI_eq (by omega) (by omega)).mp hye
    rw [show mX7_in (Int32.toInt64 (nI (b - 1))) 1 59 = some 1 from hz]
    refine ⟨a * (b - 1) * 60 ^ q, sl_bd (by omega) h5, ?_, ?_⟩
    · rw [if_neg (show ¬ nI (b - 1) < (1 : Int32) from ilt_nlt ((nI_leI (a := 1) (by decide) (by omega)).mpr (by omega))), if_pos (show nI (b - 1) < (60 : Int32) from (nI_ltI (b := 60) (by omega) (by decide)).mpr (by omega))]
    · rw [Option.bind_some, if_neg h10]
theorem q_sl21 (hk : k ≤ 16) {j : Nat} (hj : j < k) (h : lineRel xX xY xP mp mq mX mY j) : slOK xX xY xP mp mq mX mY k j 2 1 := by
  obtain ⟨a, b, q, h1, h2, h3, h4, h5, x1, m1, x2, m2, x3, m3, m4⟩ := h
  have hab : a * b ≤ 59 * 59 := Nat.mul_le_mul (by omega) (by omega)
  have hin := nI_in (c := j) (N := 16) (by omega) (by decide)
  have ey : nI b + (1 : Int32) = nI (b + 1) := nI_1 b
  have hay : a * (b + 1) ≤ 59 * 60 := Nat.mul_le_mul (by omega) (by omega)
  have hX : mX5_slipped xX xY xP (nI k) (nI j) 2 1 = if nI (b + 1) < 1 then some (-1) else if nI (b + 1) < 60 then some (lN (a * (b + 1) * 60 ^ q)) else some (-1) := by
    rw [mX5_slipped, mX5_rowBeside]
    simp only [md_jnP, md_letP, q_dX hk hj, q_dY hk hj, q_pl hk hj, Option.bind_some, w00, w10, w11, w20, w21, w22, if_true, if_false, bind_id, x1, x2, x3, ey]
    rw [show (nI a).toInt64 = lN a from nI_l (by omega), show (nI (b + 1)).toInt64 = lN (b + 1) from nI_l (by omega), lN_mul, q_ap (by omega)]
  have hR := r_21 (mp := mp) (mq := mq) (mX := mX) (mY := mY) hin
  rw [nI_clamp (by omega), m1, m2, m3, ey, rfin_neg, pk_mul, rfin_pos (by omega) (by omega)] at hR
  rw [slOK, hX, hR]
  rcases q_inR (nI (b + 1)) (a := 1) (b := 59) (by decide) (by decide) with ⟨hz, hc⟩ | ⟨y, hy1, hy2, hye, hz⟩
  · left
    rw [show mX7_in (Int32.toInt64 (nI (b + 1))) 1 59 = some 0 from hz]
    refine ⟨?_, rfl⟩
    by_cases hl : nI (b + 1) < (1 : Int32)
    · rw [if_pos hl]
    · rw [if_neg hl, if_neg]
      intro z
      have h59 := hc.resolve_left hl
      have z1 := (nI_ltI (b := 60) (by omega) (by decide)).mp z
      have z2 := (nI_ltI (by decide) (by omega)).mp h59
      omega
  · right
    have hye2 := (nI_eq (by omega) (by omega)).mp hye
    rw [show mX7_in (Int32.toInt64 (nI (b + 1))) 1 59 = some 1 from hz]
    refine ⟨a * (b + 1) * 60 ^ q, sl_bd (by omega) h5, ?_, ?_⟩
    · rw [if_neg (show ¬ nI (b + 1) < (1 : Int32) from ilt_nlt ((nI_leI (a := 1) (by decide) (by omega)).mpr (by omega))), if_pos (show nI (b + 1) < (60 : Int32) from (nI_ltI (b := 60) (by omega) (by decide)).mpr (by omega))]
    · rw [Option.bind_some, if_neg h10]
end XSL
