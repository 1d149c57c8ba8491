theorem w33 : ((3 : Int32) = 3) = True := eq_true rfl
section XSL3
variable {xX xY xP mp mq mX mY : Nat → Int32} {k : Nat}
theorem q_sl30 (hk : k ≤ 16) {j : Nat} (hj : j < k) (h : lineRel xX xY xP mp mq mX mY j) : slOK xX xY xP mp mq mX mY k j 3 0 := by
  obtain ⟨a, b, q, h1, h2, h3, h4, h5, x1, m1, x2, m2, x3, m3, m4⟩ := h
  have hab : a * b ≤ 59 * 59 := Nat.mul_le_mul (by omega) (by omega)
  have hin := nI_in (c := j) (N := 16) (by omega) (by decide)
  have eR : nI (a * b) - nI (a * b) / (60 : Int32) * (60 : Int32) = nI (a * b % 60) := pk_rem (d := 60) (by omega) (by decide) (by decide)
  have eD : nI (a * b) / (60 : Int32) = nI (a * b / 60) := pk_div (d := 60) (by omega) (by decide) (by decide)
  have eX : (nI (a * b / 60) * (60 : Int32) + nI (a * b / 60)) * (60 : Int32) + nI (a * b % 60) = nI (3660 * (a * b / 60) + a * b % 60) := by
    rw [show (60 : Int32) = nI 60 from rfl, pk_mul, nI_add, pk_mul, nI_add]; congr 1; omega
  have eM : (3660 : Int32) * nI (a * b / 60) + nI (a * b % 60) = nI (3660 * (a * b / 60) + a * b % 60) := by
    rw [show (3660 : Int32) = nI 3660 from rfl, pk_mul, nI_add]
  have hX : mX5_slipped xX xY xP (nI k) (nI j) 3 0 = if nI (a * b / 60) = 0 then some (-1) else some (lN ((3660 * (a * b / 60) + a * b % 60) * 60 ^ q)) := by
    rw [mX5_slipped, mX5_writtenTwice]
    simp only [md_jnP, md_letP, q_pr hk hj, q_pl hk hj, Option.bind_some, w00, w30, w31, w32, w33, if_true, if_false, bind_id, x1, x2, x3, pk_mul]
    rw [eR, eD, eX, show (nI (3660 * (a * b / 60) + a * b % 60)).toInt64 = lN (3660 * (a * b / 60) + a * b % 60) from nI_l (by omega), q_ap (by omega)]
  have hR := r_30 (mp := mp) (mq := mq) (mX := mX) (mY := mY) hin
  rw [nI_clamp (by omega), m3, m4, rfin_neg, eR, eD, eM, rfin_pos (by omega) (by omega)] at hR
  rw [slOK, hX, hR]
  by_cases h0 : a * b / 60 = 0
  · left
    rw [h0]
    exact ⟨if_pos rfl, if_pos (by decide)⟩
  · right
    exact ⟨_, sl_bd (by omega) h5, if_neg (nI_ne0 (by omega) (by omega)), if_neg (nI_nle (by omega) (by omega))⟩
theorem q_sl31 (hk : k ≤ 16) {j : Nat} (hj : j < k) (h : lineRel xX xY xP mp mq mX mY j) : slOK xX xY xP mp mq mX mY k j 3 1 := by
  obtain ⟨a, b, q, h1, h2, h3, h4, h5, x1, m1, x2, m2, x3, m3, m4⟩ := h
  have hab : a * b ≤ 59 * 59 := Nat.mul_le_mul (by omega) (by omega)
  have hin := nI_in (c := j) (N := 16) (by omega) (by decide)
  have eR : nI (a * b) - nI (a * b) / (60 : Int32) * (60 : Int32) = nI (a * b % 60) := pk_rem (d := 60) (by omega) (by decide) (by decide)
  have eD : nI (a * b) / (60 : Int32) = nI (a * b / 60) := pk_div (d := 60) (by omega) (by decide) (by decide)
  have eX : (nI (a * b / 60) * (60 : Int32) + nI (a * b % 60)) * (60 : Int32) + nI (a * b % 60) = nI (3600 * (a * b / 60) + 61 * (a * b % 60)) := by
    rw [show (60 : Int32) = nI 60 from rfl, pk_mul, nI_add, pk_mul, nI_add]; congr 1; omega
  have eM : (3600 : Int32) * nI (a * b / 60) + (61 : Int32) * nI (a * b % 60) = nI (3600 * (a * b / 60) + 61 * (a * b % 60)) := by
    rw [show (3600 : Int32) = nI 3600 from rfl, show (61 : Int32) = nI 61 from rfl, pk_mul, pk_mul, nI_add]
  have hX : mX5_slipped xX xY xP (nI k) (nI j) 3 1 = if nI (a * b % 60) = 0 then some (-1) else some (lN ((3600 * (a * b / 60) + 61 * (a * b % 60)) * 60 ^ q)) := by
    rw [mX5_slipped, mX5_writtenTwice]
    simp only [md_jnP, md_letP, q_pr hk hj, q_pl hk hj, Option.bind_some, w10, w30, w31, w32, w33, if_true, if_false, bind_id, x1, x2, x3, pk_mul]
    rw [eR, eD, eX, show (nI (3600 * (a * b / 60) + 61 * (a * b % 60))).toInt64 = lN (3600 * (a * b / 60) + 61 * (a * b % 60)) from nI_l (by omega), q_ap (by omega)]
  have hR := r_31 (mp := mp) (mq := mq) (mX := mX) (mY := mY) hin
  rw [nI_clamp (by omega), m3, m4, rfin_neg, eR, eD, eM, rfin_pos (by omega) (by omega)] at hR
  rw [slOK, hX, hR]
  by_cases h0 : a * b % 60 = 0
  · left
    rw [h0]
    exact ⟨if_pos rfl, if_pos (by decide)⟩
  · right
    exact ⟨_, sl_bd (by omega) h5, if_neg (nI_ne0 (by omega) (by omega)), if_neg (nI_nle (by omega) (by omega))⟩
theorem q_slAll (hk : k ≤ 16) {j : Nat} (hj : j < k) (h : lineRel xX xY xP mp mq mX mY j) {c w : Nat} (hc : c < 4) (hw : w < 2) : slOK xX xY xP mp mq mX mY k j (nI c) (nI w) := by
  rcases (show w = 0 ∨ w = 1 by omega) with rfl | rfl <;> rcases (show c = 0 ∨ c = 1 ∨ c = 2 ∨ c = 3 by omega) with rfl | rfl | rfl | rfl
  · exact q_sl00 hk hj h
  · exact q_sl10 hk hj h
  · exact q_sl20 hk hj h
  · exact q_sl30 hk hj h
  · exact q_sl01 hk hj h
  · exact q_sl11 hk hj h
  · exact q_sl21 hk hj h
  · exact q_sl31 hk hj h
end XSL3
