/-! PURE: numbers by sixties. lN n, nI n: a Nat as a long, an int. -/
theorem fa_lit (n : Nat) : (OfNat.ofNat n : Int32) = nI n := rfl
theorem h10 : ¬ (1 : Int32) = 0 := by decide
theorem fa_litL (n : Nat) : (OfNat.ofNat n : Int64) = lN n := rfl
theorem q_rem {n d : Nat} (hn : n < 2 ^ 63) (h0 : 0 < d) (hd : d < 2 ^ 63) : (lN n - lN n / lN d * lN d = lN 0) ↔ n % d = 0 := by
  rw [pk_lRem hn h0 hd]
  exact pk_lEQ (Nat.lt_of_le_of_lt (Nat.mod_le n d) hn) (by decide)
theorem q_remI {n d : Nat} (hn : n < 2 ^ 31) (h0 : 0 < d) (hd : d < 2 ^ 31) : (nI n - nI n / nI d * nI d = nI 0) ↔ n % d = 0 := by
  rw [pk_rem hn h0 hd]
  exact nI_eq (Nat.lt_of_le_of_lt (Nat.mod_le n d) hn) (by decide)
theorem q_dom (p : Int64) : (mX1_isNumber p = some 0 ∧ mX7_isGiven p = some 0) ∨ ∃ n, 1 ≤ n ∧ n < 167961600000000 ∧ p = lN n ∧ mX1_isNumber p = some 1 ∧ mX7_isGiven p = some 1 := by
  by_cases h1 : p < 1
  · left
    refine ⟨by rw [mX1_isNumber, if_pos h1], ?_⟩
    rw [mX7_isGiven, mX7_in, if_pos h1]
    rfl
  · have h1' : 1 ≤ p.toInt := by
      rw [Int64.lt_iff_toInt_lt] at h1
      have : (1 : Int64).toInt = 1 := by decide
      omega
    by_cases h2 : (167961600000000 : Int64) ≤ p
    · left
      refine ⟨by rw [mX1_isNumber, if_neg h1, if_pos h2], ?_⟩
      have h3 : (167961599999999 : Int64) < p := by
        rw [Int64.le_iff_toInt_le] at h2
        rw [Int64.lt_iff_toInt_lt]
        have e1 : (167961600000000 : Int64).toInt = 167961600000000 := by decide
        have e2 : (167961599999999 : Int64).toInt = 167961599999999 := by decide
        omega
      rw [mX7_isGiven, mX7_in, if_neg h1, if_pos h3]
      rfl
    · right
      obtain ⟨k, hk, rfl⟩ := pk_lOf (x := p) (by
        rw [Int64.lt_iff_toInt_lt]
        have : (0 : Int64).toInt = 0 := by decide
        omega)
      have e := pk_lT hk
      have h4 : ¬ (167961599999999 : Int64) < lN k := by
        rw [Int64.le_iff_toInt_le] at h2
        rw [Int64.lt_iff_toInt_lt]
        have e1 : (167961600000000 : Int64).toInt = 167961600000000 := by decide
        have e2 : (167961599999999 : Int64).toInt = 167961599999999 := by decide
        omega
      have h5 : k < 167961600000000 := by
        rw [Int64.le_iff_toInt_le] at h2
        have e1 : (167961600000000 : Int64).toInt = 167961600000000 := by decide
        omega
      refine ⟨k, by omega, h5, rfl, by rw [mX1_isNumber, if_neg h1, if_neg h2], ?_⟩
      rw [mX7_isGiven, mX7_in, if_neg h1, if_neg h4]
      rfl
/-- parted by 60 as long as that goes -/
def sxF : Nat → Nat → Nat
  | 0, n => n
  | k + 1, n => if n % 60 = 0 then sxF k (n / 60) else n
def sx (n : Nat) : Nat := sxF 8 n
theorem q_strip_loop (kE : Int64 → Option Int64) : ∀ (j i f n : Nat), i + j = 8 → j < f → n < 2 ^ 62 → mlX1_strip_5 kE f (lN n) (nI i) = kE (lN (sxF j n)) := by
  intro j
  induction j with
  | zero =>
    intro i f n hi hf hn
    obtain ⟨f, rfl⟩ : ∃ g, f = g + 1 := ⟨f - 1, by omega⟩
    rw [mlX1_strip_5, if_pos (show (8 : Int32) ≤ nI i from (nI_leI (a := 8) (by decide) (by omega)).mpr (by omega))]
    rfl
  | succ j ih =>
    intro i f n hi hf hn
    obtain ⟨f, rfl⟩ : ∃ g, f = g + 1 := ⟨f - 1, by omega⟩
    rw [mlX1_strip_5, if_neg (show ¬ (8 : Int32) ≤ nI i from fun q => by have := (nI_leI (a := 8) (by decide) (by omega)).mp q; omega)]
    by_cases h : n % 60 = 0
    · rw [if_pos (show lN n - lN n / 60 * 60 = (0 : Int64) from (q_rem (d := 60) (by omega) (by decide) (by decide)).mpr h)]
      have e1 : lN n / (60 : Int64) = lN (n / 60) := pk_lDiv (b := 60) (by omega) (by decide) (by decide)
      have e2 : nI i + (1 : Int32) = nI (i + 1) := nI_1 i
      simp only [md_let]
      rw [e1, e2, ih (i + 1) f (n / 60) (by omega) (by omega) (by omega)]
      rw [sxF, if_pos h]
    · rw [if_neg (show ¬ lN n - lN n / 60 * 60 = (0 : Int64) from fun q => h ((q_rem (d := 60) (by omega) (by decide) (by decide)).mp q))]
      rw [sxF, if_neg h]
theorem q_strip {n : Nat} (hn : n < 2 ^ 62) : mX1_strip (lN n) = some (lN (sx n)) := q_strip_loop _ 8 0 kN n rfl (by decide) hn
theorem q_six_loop (kE : Int64 → Option Int64) : ∀ (m f n : Nat), m ≤ 10 → m < f → 1 ≤ n → n < 60 ^ m → mlX7_sixtyOf_2 kE f (lN n) = kE (lN (sxF m n)) := by
  intro m
  induction m with
  | zero => intro f n _ _ h1 h2; simp at h2; omega
  | succ m ih =>
    intro f n hm hf h1 hn
    obtain ⟨f, rfl⟩ : ∃ g, f = g + 1 := ⟨f - 1, by omega⟩
    have hb : n < 2 ^ 63 := by
      have : (60 : Nat) ^ (m + 1) ≤ 60 ^ 10 := Nat.pow_le_pow_right (by decide) hm
      have : (60 : Nat) ^ 10 < 2 ^ 63 := by decide
      omega
    rw [mlX7_sixtyOf_2]
    by_cases h : n % 60 = 0
    · rw [if_pos (show lN n - lN n / 60 * 60 = (0 : Int64) from (q_rem (d := 60) hb (by decide) (by decide)).mpr h)]
      have e1 : lN n / (60 : Int64) = lN (n / 60) := pk_lDiv (b := 60) hb (by decide) (by decide)
      simp only [md_let]
      rw [e1, ih f (n / 60) (by omega) (by omega) (by omega) (by rw [Nat.pow_succ] at hn; omega)]
      rw [sxF, if_pos h]
    · rw [if_neg (show ¬ lN n - lN n / 60 * 60 = (0 : Int64) from fun q => h ((q_rem (d := 60) hb (by decide) (by decide)).mp q))]
      rw [sxF, if_neg h]
theorem e60_8 : (60 : Nat) ^ 8 = 167961600000000 := by decide
theorem q_six {n : Nat} (h1 : 1 ≤ n) (hn : n < 167961600000000) : mX7_sixtyOf (lN n) = some (lN (sx n)) := q_six_loop _ 8 kN n (by decide) (by decide) h1 (by rw [e60_8]; exact hn)
theorem sxF_le : ∀ (k n : Nat), sxF k n ≤ n := by
  intro k
  induction k with
  | zero => intro n; exact Nat.le_refl _
  | succ k ih =>
    intro n
    rw [sxF]
    split
    · have := ih (n / 60); omega
    · exact Nat.le_refl _
theorem sxF_pos : ∀ (k n : Nat), 1 ≤ n → 1 ≤ sxF k n := by
  intro k
  induction k with
  | zero => intro n h; exact h
  | succ k ih =>
    intro n h
    rw [sxF]
    split
    · exact ih _ (by omega)
    · exact h
theorem sxF_ne : ∀ (k n : Nat), 1 ≤ n → n < 60 ^ k → sxF k n % 60 ≠ 0 := by
  intro k
  induction k with
  | zero => intro n h1 h2; simp at h2; omega
  | succ k ih =>
    intro n h1 h2
    rw [sxF]
    split
    · exact ih _ (by omega) (by rw [Nat.pow_succ] at h2; omega)
    · assumption
theorem sx_le (n : Nat) : sx n ≤ n := sxF_le 8 n
theorem sx_pos {n : Nat} (h : 1 ≤ n) : 1 ≤ sx n := sxF_pos 8 n h
theorem sx_ne {n : Nat} (h : 1 ≤ n) (hn : n < 167961600000000) : sx n % 60 ≠ 0 := sxF_ne 8 n h (by rw [e60_8]; exact hn)
theorem sx_self {n : Nat} (h : n % 60 ≠ 0) : sx n = n := by rw [sx, sxF, if_neg h]
theorem sx0 : sx 0 = 0 := by decide
/-- sixty -/
theorem op_sixty (p : Int64) : ∃ r, mX6_sixty p = some r ∧ mX7_sixty p = some r := by
  rcases q_dom p with ⟨h1, h2⟩ | ⟨n, ha, hb, rfl, h1, h2⟩
  · refine ⟨-1000000000000000002, ?_, ?_⟩
    · rw [mX6_sixty, h1]; rfl
    · rw [mX7_sixty, h2]; rfl
  · refine ⟨lN (sx n), ?_, ?_⟩
    · rw [mX6_sixty, h1, Option.bind_some, if_neg h10, q_strip (by omega), Option.bind_some]
    · rw [mX7_sixty, h2, Option.bind_some, if_neg h10, q_six ha hb, Option.bind_some]
/-- how many digits -/
def lnF : Nat → Nat → Nat
  | 0, _ => 0
  | k + 1, n => if n = 0 then 0 else 1 + lnF k (n / 60)
def ln (n : Nat) : Nat := lnF 8 n
theorem lnF_le : ∀ (k n : Nat), lnF k n ≤ k := by
  intro k
  induction k with
  | zero => intro n; exact Nat.le_refl _
  | succ k ih => intro n; rw [lnF]; split; omega; have := ih (n / 60); omega
theorem ln_le (n : Nat) : ln n ≤ 8 := lnF_le 8 n
theorem q_length_loop (kE : Int32 → Option Int32) : ∀ (j i f c n : Nat), i + j = 8 → j < f → n < 2 ^ 62 → mlX1_length_7 kE f (nI c) (lN n) (nI i) = kE (nI (c + lnF j n)) := by
  intro j
  induction j with
  | zero =>
    intro i f c n hi hf hn
    obtain ⟨f, rfl⟩ : ∃ g, f = g + 1 := ⟨f - 1, by omega⟩
    rw [mlX1_length_7, if_pos (show (8 : Int32) ≤ nI i from (nI_leI (a := 8) (by decide) (by omega)).mpr (by omega))]
    rfl
  | succ j ih =>
    intro i f c n hi hf hn
    obtain ⟨f, rfl⟩ : ∃ g, f = g + 1 := ⟨f - 1, by omega⟩
    rw [mlX1_length_7, if_neg (show ¬ (8 : Int32) ≤ nI i from fun q => by have := (nI_leI (a := 8) (by decide) (by omega)).mp q; omega)]
    by_cases h : n = 0
    · rw [if_pos (show lN n ≤ (0 : Int64) from (pk_lLE (b := 0) (by omega) (by decide)).mpr (by omega))]
      rw [lnF, if_pos h]; rfl
    · rw [if_neg (show ¬ lN n ≤ (0 : Int64) from fun q => by have := (pk_lLE (b := 0) (by omega) (by decide)).mp q; omega)]
      have e1 : lN n / (60 : Int64) = lN (n / 60) := pk_lDiv (b := 60) (by omega) (by decide) (by decide)
      have e2 : nI i + (1 : Int32) = nI (i + 1) := nI_1 i
      have e3 : nI c + (1 : Int32) = nI (c + 1) := nI_1 c
      simp only [md_let]
      rw [e1, e2, e3, ih (i + 1) f (c + 1) (n / 60) (by omega) (by omega) (by omega)]
      rw [lnF, if_neg h]; congr 2; omega
theorem q_length {n : Nat} (hn : n < 2 ^ 62) : mX1_length (lN n) = some (nI (ln n)) := by
  rw [mX1_length]
  have := q_length_loop (fun y => some y) 8 0 kN 0 n rfl (by decide) hn
  rw [Nat.zero_add] at this
  exact this
theorem q_digits_loop (kE : Int32 → Option Int32) : ∀ (m f c n : Nat), m ≤ 10 → m < f → n < 60 ^ m → mlX7_digits_4 kE f (nI c) (lN n) = kE (nI (c + lnF m n)) := by
  intro m
  induction m with
  | zero =>
    intro f c n _ hf hn
    obtain ⟨f, rfl⟩ : ∃ g, f = g + 1 := ⟨f - 1, by omega⟩
    have h0 : n = 0 := by simp at hn; exact hn
    subst h0
    rw [mlX7_digits_4, if_pos (show lN 0 ≤ (0 : Int64) from by decide)]
    rfl
  | succ m ih =>
    intro f c n hm hf hn
    obtain ⟨f, rfl⟩ : ∃ g, f = g + 1 := ⟨f - 1, by omega⟩
    have hb : n < 2 ^ 63 := by
      have : (60 : Nat) ^ (m + 1) ≤ 60 ^ 10 := Nat.pow_le_pow_right (by decide) hm
      have : (60 : Nat) ^ 10 < 2 ^ 63 := by decide
      omega
    rw [mlX7_digits_4]
    by_cases h : n = 0
    · rw [if_pos (show lN n ≤ (0 : Int64) from (pk_lLE (b := 0) hb (by decide)).mpr (by omega))]
      rw [lnF, if_pos h]; rfl
    · rw [if_neg (show ¬ lN n ≤ (0 : Int64) from fun q => by have := (pk_lLE (b := 0) hb (by decide)).mp q; omega)]
      have e1 : lN n / (60 : Int64) = lN (n / 60) := pk_lDiv (b := 60) hb (by decide) (by decide)
      have e3 : nI c + (1 : Int32) = nI (c + 1) := nI_1 c
      simp only [md_let]
      rw [e1, e3, ih f (c + 1) (n / 60) (by omega) (by omega) (by rw [Nat.pow_succ] at hn; omega)]
      rw [lnF, if_neg h]; congr 2; omega
theorem q_digits {n : Nat} (hn : n < 167961600000000) : mX7_digits (lN n) = some (nI (ln n)) := by
  rw [mX7_digits]
  have := q_digits_loop (fun y => some y) 8 kN 0 n (by decide) (by decide) (by rw [e60_8]; exact hn)
  rw [Nat.zero_add] at this
  exact this
theorem q_power_loop (kE : Int64 → Option Int64) (k : Nat) (hk : k ≤ 10) : ∀ (j i f : Nat), i + j = k → j < f → mlX7_power_4 (nI k) kE f (lN (60 ^ i)) (nI i) = kE (lN (60 ^ k)) := by
  intro j
  induction j with
  | zero =>
    intro i f hi hf
    obtain ⟨f, rfl⟩ : ∃ g, f = g + 1 := ⟨f - 1, by omega⟩
    rw [mlX7_power_4, if_pos ((nI_leI (by omega) (by omega)).mpr (by omega)), show i = k by omega]
  | succ j ih =>
    intro i f hi hf
    obtain ⟨f, rfl⟩ : ∃ g, f = g + 1 := ⟨f - 1, by omega⟩
    rw [mlX7_power_4, if_neg (fun q => by have := (nI_leI (by omega) (by omega)).mp q; omega)]
    have e1 : lN (60 ^ i) * (60 : Int64) = lN (60 ^ (i + 1)) := by rw [Nat.pow_succ]; exact lN_mul (60 ^ i) 60
    have e3 : nI i + (1 : Int32) = nI (i + 1) := nI_1 i
    simp only [md_let]
    rw [e1, e3]
    exact ih (i + 1) f (by omega) (by omega)
theorem q_power {k : Nat} (hk : k ≤ 10) : mX7_power (nI k) = some (lN (60 ^ k)) := q_power_loop _ k hk k 0 kN (by omega) (by have : kN = 5000 := rfl; omega)
theorem p60_lt {k : Nat} (hk : k ≤ 10) : 60 ^ k < 2 ^ 62 := by
  have : (60 : Nat) ^ k ≤ 60 ^ 10 := Nat.pow_le_pow_right (by decide) hk
  have : (60 : Nat) ^ 10 < 2 ^ 62 := by decide
  omega
theorem p60_pos (k : Nat) : 0 < 60 ^ k := Nat.pow_pos (by decide)
theorem q_digitAt {n k : Nat} (hn : n < 2 ^ 62) (hk : k ≤ 10) : mX7_digitAt (lN n) (nI k) = some (nI (n / 60 ^ k % 60)) := by
  rw [mX7_digitAt, q_power hk, Option.bind_some]
  have hp := p60_lt hk
  have hq := p60_pos k
  rw [if_neg (show ¬ lN (60 ^ k) = (0 : Int64) from fun q => by have := (pk_lEQ (b := 0) (by omega) (by decide)).mp q; omega)]
  have e1 : lN n / lN (60 ^ k) = lN (n / 60 ^ k) := pk_lDiv (by omega) hq (by omega)
  have h1 : n / 60 ^ k < 2 ^ 62 := Nat.lt_of_le_of_lt (Nat.div_le_self _ _) hn
  have e2 : lN (n / 60 ^ k) - lN (n / 60 ^ k) / (60 : Int64) * (60 : Int64) = lN (n / 60 ^ k % 60) := pk_lRem (b := 60) (by omega) (by decide) (by decide)
  rw [e1, e2, lN_i]
theorem q_dA_loop (kE : Int64 → Option Int32) (k : Nat) (hk : k ≤ 8) : ∀ (j i f n : Nat), i + j = k → j < f → n < 2 ^ 62 → mlX1_digitAhead_5 (nI k) kE f (lN n) (nI i) = kE (lN (n / 60 ^ j)) := by
  intro j
  induction j with
  | zero =>
    intro i f n hi hf hn
    obtain ⟨f, rfl⟩ : ∃ g, f = g + 1 := ⟨f - 1, by omega⟩
    rw [mlX1_digitAhead_5, if_pos ((nI_leI (by omega) (by omega)).mpr (by omega)), Nat.pow_zero, Nat.div_one]
  | succ j ih =>
    intro i f n hi hf hn
    obtain ⟨f, rfl⟩ : ∃ g, f = g + 1 := ⟨f - 1, by omega⟩
    rw [mlX1_digitAhead_5, if_neg (fun q => by have := (nI_leI (by omega) (by omega)).mp q; omega), if_neg (show ¬ (8 : Int32) ≤ nI i from fun q => by have := (nI_leI (a := 8) (by decide) (by omega)).mp q; omega)]
    have e1 : lN n / (60 : Int64) = lN (n / 60) := pk_lDiv (b := 60) (by omega) (by decide) (by decide)
    have e3 : nI i + (1 : Int32) = nI (i + 1) := nI_1 i
    simp only [md_let]
    rw [e1, e3, ih (i + 1) f (n / 60) (by omega) (by omega) (by omega), Nat.div_div_eq_div_mul, Nat.pow_succ, Nat.mul_comm]
theorem q_digitAhead {n k : Nat} (hn : n < 2 ^ 62) (hk : k ≤ 8) : mX1_digitAhead (lN n) (nI k) = some (nI (n / 60 ^ k % 60)) := by
  rw [mX1_digitAhead]
  have := q_dA_loop (fun (y3_30 : Int64) => (some (Int64.toInt32 (y3_30 - y3_30 / (60 : Int64) * (60 : Int64))))) k hk k 0 kN n (by omega) (by have : kN = 5000 := rfl; omega) hn
  rw [show (0 : Int32) = nI 0 from rfl, this]
  have h1 : n / 60 ^ k < 2 ^ 62 := Nat.lt_of_le_of_lt (Nat.div_le_self _ _) hn
  have e2 : lN (n / 60 ^ k) - lN (n / 60 ^ k) / (60 : Int64) * (60 : Int64) = lN (n / 60 ^ k % 60) := pk_lRem (b := 60) (by omega) (by decide) (by decide)
  show some (Int64.toInt32 (lN (n / 60 ^ k) - lN (n / 60 ^ k) / (60 : Int64) * (60 : Int64))) = _
  rw [e2, lN_i]
theorem q_in (p q r : Int64) : mX7_in p q r = some (if q ≤ p ∧ p ≤ r then 1 else 0) := by
  rw [mX7_in]
  by_cases h1 : p < q
  · rw [if_pos h1, if_neg]
    rw [Int64.lt_iff_toInt_lt] at h1
    rw [Int64.le_iff_toInt_le]
    omega
  · rw [if_neg h1]
    by_cases h2 : r < p
    · rw [if_pos h2, if_neg]
      rw [Int64.lt_iff_toInt_lt] at h2
      rw [Int64.le_iff_toInt_le, Int64.le_iff_toInt_le]
      omega
    · rw [if_neg h2, if_pos]
      rw [Int64.lt_iff_toInt_lt] at h1 h2
      rw [Int64.le_iff_toInt_le, Int64.le_iff_toInt_le]
      omega
/-- a number of ints in a range from 0 -/
theorem q_inI (x : Int32) {n : Nat} (hn : n < 2 ^ 31) : (mX7_in (Int32.toInt64 x) 0 (lN n) = some 0 ∧ (x < 0 ∨ nI (n + 1) ≤ x) ∧ ¬ (0 ≤ x ∧ x ≤ nI n)) ∨ ∃ j, j ≤ n ∧ x = nI j ∧ mX7_in (Int32.toInt64 x) 0 (lN n) = some 1 := by
  have e0 : (0 : Int64).toInt = 0 := by decide
  have e1 : (0 : Int32).toInt = 0 := by decide
  have eN : (lN n).toInt = n := pk_lT (by omega)
  have eNI : (nI n).toInt = n := nI_toInt hn
  have hx := Int32.toInt_toInt64 x
  by_cases h : 0 ≤ x.toInt ∧ x.toInt ≤ n
  · right
    refine ⟨x.toInt.toNat, by omega, ?_, ?_⟩
    · apply Int32.toInt_inj.mp
      rw [nI_toInt (by omega)]
      omega
    · rw [q_in, if_pos]
      rw [Int64.le_iff_toInt_le, Int64.le_iff_toInt_le, hx, e0, eN]
      exact h
  · left
    refine ⟨?_, ?_, ?_⟩
    · rw [q_in, if_neg]
      rw [Int64.le_iff_toInt_le, Int64.le_iff_toInt_le, hx, e0, eN]
      exact h
    · rw [Int32.lt_iff_toInt_lt, Int32.le_iff_toInt_le, e1]
      rcases Nat.lt_or_ge (n + 1) (2 ^ 31) with q | q
      · rw [nI_toInt q]; omega
      · have := Int32.toInt_lt x
        left
        omega
    · rw [Int32.le_iff_toInt_le, Int32.le_iff_toInt_le, e1, eNI]
      exact h
theorem ln_pos {n : Nat} (h : 1 ≤ n) : 1 ≤ ln n := by
  rw [ln, lnF, if_neg (by omega)]
  omega
theorem bind_id {α : Type} (o : Option α) : Option.bind o (fun u => some u) = o := by cases o <;> rfl
/-- digit -/
theorem op_digit (p : Int64) (i : Int32) : ∃ r, mX6_digit p i = some r ∧ mX7_digit p i = some r := by
  rcases q_dom p with ⟨h1, h2⟩ | ⟨n, ha, hb, rfl, h1, h2⟩
  · refine ⟨-2, ?_, ?_⟩
    · rw [mX6_digit, h1]; rfl
    · rw [mX7_digit, h2]; rfl
  · have hs := sx_le n
    rw [mX6_digit, h1, Option.bind_some, if_neg h10, q_strip (by omega), Option.bind_some, q_length (by omega), Option.bind_some]
    rw [mX7_digit, h2, Option.bind_some, if_neg h10, q_six ha hb, Option.bind_some, q_digits (by omega), Option.bind_some]
    have hL := ln_le (sx n)
    have hL1 := ln_pos (sx_pos ha)
    generalize ln (sx n) = L at hL hL1
    by_cases hi : i = -1
    · rw [if_pos hi, if_pos hi]
      exact ⟨_, rfl, rfl⟩
    · rw [if_neg hi, if_neg hi]
      have e1 : nI L - (1 : Int32) = nI (L - 1) := pk_sub (a := L) (b := 1) hL1
      have e2 : (nI (L - 1)).toInt64 = lN (L - 1) := nI_l (by omega)
      rw [e1, e2]
      rcases q_inI i (n := L - 1) (by omega) with ⟨hz, hc, -⟩ | ⟨j, hj, rfl, hz⟩
      · rw [hz, Option.bind_some, if_pos (show (0 : Int32) = 0 from rfl)]
        rw [show L - 1 + 1 = L by omega] at hc
        refine ⟨-6, ?_, rfl⟩
        by_cases h0 : i < 0
        · rw [if_pos h0]
        · rw [if_neg h0, if_pos (hc.resolve_left h0)]
      · rw [hz, Option.bind_some, if_neg h10]
        rw [if_neg (nI_pos (by omega)), if_neg (fun q => by have := (nI_leI (by omega) (by omega)).mp q; omega)]
        have e3 : nI (L - 1) - nI j = nI (L - 1 - j) := pk_sub hj
        rw [e3, q_digitAhead (by omega) (by omega), q_digitAt (by omega) (by omega)]
        exact ⟨_, rfl, rfl⟩
theorem q_sight_loop (n : Nat) (hn : n < 2 ^ 62) (i : Int32) (kE : Int32 → Option Int32) (hk : ∀ c, ∃ r, kE c = some r) : ∀ (k f g : Nat) (c : Int32), k ≤ 8 → k < f → k < g → ∃ r, mlX6_sight_21 (lN n) i kE f c (nI k - 1) = some r ∧ mlX7_sightOf_10 (lN n) i kE g c (nI k - 1) = some r := by
  intro k
  induction k with
  | zero =>
    intro f g c _ hf hg
    obtain ⟨f, rfl⟩ : ∃ z, f = z + 1 := ⟨f - 1, by omega⟩
    obtain ⟨g, rfl⟩ : ∃ z, g = z + 1 := ⟨g - 1, by omega⟩
    rw [mlX6_sight_21, mlX7_sightOf_10, if_pos (by decide), if_pos (by decide)]
    obtain ⟨r, hr⟩ := hk c
    exact ⟨r, hr, hr⟩
  | succ k ih =>
    intro f g c h8 hf hg
    obtain ⟨f, rfl⟩ : ∃ z, f = z + 1 := ⟨f - 1, by omega⟩
    obtain ⟨g, rfl⟩ : ∃ z, g = z + 1 := ⟨g - 1, by omega⟩
    rw [nI_pred, mlX6_sight_21, mlX7_sightOf_10, if_neg (nI_pos (by omega)), if_neg (nI_pos (by omega))]
    have e1 : nI k + (-1 : Int32) = nI k - 1 := by rw [Int32.sub_eq_add_neg]
    have hd : n / 60 ^ k % 60 < 60 := Nat.mod_lt _ (by decide)
    rw [q_digitAhead hn (by omega), q_digitAt hn (by omega)]
    generalize n / 60 ^ k % 60 = d at hd
    simp only [Option.bind_some, md_jn, md_let, e1]
    by_cases h0 : d = 0
    · rw [if_pos (show nI d = 0 from by rw [h0]; rfl), if_pos (show nI d ≤ 0 from by rw [h0]; decide)]
      exact ih f g c (by omega) (by omega) (by omega)
    · rw [if_neg (nI_ne0 (by omega) (by omega)), if_neg (nI_nle (by omega) (by omega))]
      by_cases hc : c = i
      · rw [if_pos hc, if_pos hc]
        exact ⟨_, rfl, rfl⟩
      · rw [if_neg hc, if_neg hc]
        exact ih f g (c + 1) (by omega) (by omega) (by omega)
/-- sight -/
theorem op_sight (p : Int64) (i : Int32) : ∃ r, mX6_sight p i = some r ∧ mX7_sight p i = some r := by
  rcases q_dom p with ⟨h1, h2⟩ | ⟨n, ha, hb, rfl, h1, h2⟩
  · refine ⟨-2, ?_, ?_⟩
    · rw [mX6_sight, h1]; rfl
    · rw [mX7_sight, h2]; rfl
  · rw [mX6_sight, h1, Option.bind_some, if_neg h10, q_length (by omega), Option.bind_some]
    rw [mX7_sight, h2, Option.bind_some, if_neg h10, bind_id, mX7_sightOf, q_digits (by omega), Option.bind_some]
    have hL := ln_le n
    exact q_sight_loop n (by omega) i _ (fun c => by by_cases h : i = -1 <;> simp [h]) (ln n) kN kN 0 hL (by have : kN = 5000 := rfl; omega) (by have : kN = 5000 := rfl; omega)
