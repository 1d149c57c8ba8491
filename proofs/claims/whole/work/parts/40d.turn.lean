/-! TURNED OVER -/
def cpF (p : Nat) : Nat → Nat → Nat
  | 0, _ => 0
  | k + 1, n => if n % p = 0 then 1 + cpF p k (n / p) else 0
theorem cpF_le (p : Nat) : ∀ (k n : Nat), cpF p k n ≤ k := by
  intro k
  induction k with
  | zero => intro n; exact Nat.le_refl _
  | succ k ih => intro n; rw [cpF]; split; have := ih (n / p); omega; omega
theorem q_pi_loop (kE : Int32 → Option Int32) (p : Nat) (hp : 2 ≤ p) (hp2 : p ≤ 5) : ∀ (j i f c n : Nat), i + j = 63 → j < f → n < 2 ^ 62 → mlX4_powerIn_8 (nI p) kE f (nI c) (lN n) (nI i) = kE (nI (c + cpF p j n)) := by
  intro j
  have el : (nI p).toInt64 = lN p := nI_l (by omega)
  have hne : ¬ lN p = (0 : Int64) := fun q => by have := (pk_lEQ (b := 0) (by omega) (by decide)).mp q; omega
  induction j with
  | zero =>
    intro i f c n hi hf hn
    obtain ⟨f, rfl⟩ : ∃ g, f = g + 1 := ⟨f - 1, by omega⟩
    rw [mlX4_powerIn_8, if_pos (show (63 : Int32) ≤ nI i from (nI_leI (a := 63) (by decide) (by omega)).mpr (by omega))]
    rfl
  | succ j ih =>
    intro i f c n hi hf hn
    obtain ⟨f, rfl⟩ : ∃ g, f = g + 1 := ⟨f - 1, by omega⟩
    rw [mlX4_powerIn_8, if_neg (show ¬ (63 : Int32) ≤ nI i from fun q => by have := (nI_leI (a := 63) (by decide) (by omega)).mp q; omega), if_neg (show ¬ nI p ≤ (1 : Int32) from fun q => by have := (nI_leI (b := 1) (by omega) (by decide)).mp q; omega), el, if_neg hne, if_neg hne]
    by_cases h : n % p = 0
    · rw [if_pos ((q_rem0 (by omega) (by omega) (by omega)).mpr h)]
      have e3 : nI i + (1 : Int32) = nI (i + 1) := nI_1 i
      have e4 : nI c + (1 : Int32) = nI (c + 1) := nI_1 c
      simp only [md_let]
      rw [pk_lDiv (by omega) (by omega) (by omega), e3, e4, ih (i + 1) f (c + 1) (n / p) (by omega) (by omega) (Nat.lt_of_le_of_lt (Nat.div_le_self _ _) hn), cpF, if_pos h]
      congr 2; omega
    · rw [if_neg (fun q => h ((q_rem0 (by omega) (by omega) (by omega)).mp q)), cpF, if_neg h, Nat.add_zero]
theorem q_pi {p n : Nat} (hp : 2 ≤ p) (hp2 : p ≤ 5) (hn : n < 2 ^ 62) : mX4_powerIn (lN n) (nI p) = some (nI (cpF p 63 n)) := by
  have := q_pi_loop (fun y => some y) p hp hp2 63 0 kN 0 n rfl (by decide) hn
  rw [Nat.zero_add] at this
  exact this
theorem q_ti_loop (kE : Int32 → Option Int32) (p : Nat) (hp : 2 ≤ p) (hp2 : p ≤ 5) : ∀ (m f c n : Nat), m ≤ 63 → m < f → 1 ≤ n → n < 2 ^ m → mlX7_times_5 (nI p) kE f (nI c) (lN n) = kE (nI (c + cpF p m n)) := by
  intro m
  have el : (nI p).toInt64 = lN p := nI_l (by omega)
  have hne : ¬ lN p = (0 : Int64) := fun q => by have := (pk_lEQ (b := 0) (by omega) (by decide)).mp q; omega
  induction m with
  | zero => intro f c n _ _ h1 h2; simp at h2; omega
  | succ m ih =>
    intro f c n hm hf h1 hn
    obtain ⟨f, rfl⟩ : ∃ g, f = g + 1 := ⟨f - 1, by omega⟩
    have hb : n < 2 ^ 63 := Nat.lt_of_lt_of_le hn (Nat.pow_le_pow_right (by decide) hm)
    rw [mlX7_times_5, el, if_neg hne]
    by_cases h : n % p = 0
    · rw [if_pos ((q_rem0 hb (by omega) (by omega)).mpr h)]
      have e4 : nI c + (1 : Int32) = nI (c + 1) := nI_1 c
      simp only [md_let]
      rw [if_neg hne, pk_lDiv hb (by omega) (by omega), e4, ih f (c + 1) (n / p) (by omega) (by omega) ((Nat.one_le_div_iff (by omega)).mpr (Nat.le_of_dvd h1 (Nat.dvd_of_mod_eq_zero h))) (div_lt2 hp hn), cpF, if_pos h]
      congr 2; omega
    · rw [if_neg (fun q => h ((q_rem0 hb (by omega) (by omega)).mp q)), cpF, if_neg h, Nat.add_zero]
theorem q_ti {p n : Nat} (hp : 2 ≤ p) (hp2 : p ≤ 5) (h1 : 1 ≤ n) (hn : n < 2 ^ 62) : mX7_times (lN n) (nI p) = some (nI (cpF p 63 n)) := by
  have := q_ti_loop (fun y => some y) p hp hp2 63 kN 0 n (by decide) (by decide) h1 (by omega)
  rw [Nat.zero_add] at this
  exact this
theorem cp_spec (p : Nat) (hp : 2 ≤ p) : ∀ (k n : Nat), 1 ≤ n → n < 2 ^ k → ∃ r, n = p ^ (cpF p k n) * r ∧ r % p ≠ 0 := by
  intro k
  induction k with
  | zero => intro n h1 h2; simp at h2; omega
  | succ k ih =>
    intro n h1 hn
    rw [cpF]
    by_cases h : n % p = 0
    · rw [if_pos h]
      obtain ⟨r, hr, hr2⟩ := ih (n / p) ((Nat.one_le_div_iff (by omega)).mpr (Nat.le_of_dvd h1 (Nat.dvd_of_mod_eq_zero h))) (div_lt2 hp hn)
      refine ⟨r, ?_, hr2⟩
      have e : n = p * (n / p) := (Nat.mul_div_cancel' (Nat.dvd_of_mod_eq_zero h)).symm
      rw [Nat.pow_add, Nat.pow_one, Nat.mul_assoc, ← hr]
      exact e
    · rw [if_neg h]
      exact ⟨n, by rw [Nat.pow_zero, Nat.one_mul], h⟩
theorem cp_one {p : Nat} (hp : 2 ≤ p) : ∀ (a b r s : Nat), p ^ a * r = p ^ b * s → r % p ≠ 0 → s % p ≠ 0 → a = b := by
  intro a
  induction a with
  | zero =>
    intro b r s h hr hs
    cases b with
    | zero => rfl
    | succ b =>
      rw [Nat.pow_zero, Nat.one_mul, Nat.pow_succ, Nat.mul_comm (p ^ b) p, Nat.mul_assoc] at h
      exact absurd (by rw [h]; exact Nat.mul_mod_right p _) hr
  | succ a ih =>
    intro b r s h hr hs
    cases b with
    | zero =>
      rw [Nat.pow_zero, Nat.one_mul, Nat.pow_succ, Nat.mul_comm (p ^ a) p, Nat.mul_assoc] at h
      exact absurd (by rw [← h]; exact Nat.mul_mod_right p _) hs
    | succ b =>
      rw [Nat.pow_succ, Nat.pow_succ, Nat.mul_comm (p ^ a) p, Nat.mul_comm (p ^ b) p, Nat.mul_assoc, Nat.mul_assoc] at h
      rw [ih b r s (Nat.eq_of_mul_eq_mul_left (by omega) h) hr hs]
theorem cp_60 {m p e q : Nat} (hp : 2 ≤ p) (hm : 1 ≤ m) (h60 : 60 * m < 2 ^ 63) (he : 60 = p ^ e * q) (hq : ∀ r, r % p ≠ 0 → (q * r) % p ≠ 0) : cpF p 63 (60 * m) = cpF p 63 m + e := by
  obtain ⟨r, h1, h2⟩ := cp_spec p hp 63 m hm (by omega)
  obtain ⟨s, h3, h4⟩ := cp_spec p hp 63 (60 * m) (by omega) h60
  refine cp_one hp _ _ s (q * r) ?_ h4 (hq r h2)
  rw [← h3]
  generalize cpF p 63 m = c at h1
  rw [h1, he, Nat.pow_add, Nat.mul_mul_mul_comm, Nat.mul_comm (p ^ e), ← Nat.mul_assoc]
theorem cp2_60 {m : Nat} (hm : 1 ≤ m) (h60 : 60 * m < 2 ^ 63) : cpF 2 63 (60 * m) = cpF 2 63 m + 2 := cp_60 (q := 15) (by decide) hm h60 (by decide) (fun r hr => by omega)
theorem cp3_60 {m : Nat} (hm : 1 ≤ m) (h60 : 60 * m < 2 ^ 63) : cpF 3 63 (60 * m) = cpF 3 63 m + 1 := cp_60 (q := 20) (by decide) hm h60 (by decide) (fun r hr => by omega)
theorem cp5_60 {m : Nat} (hm : 1 ≤ m) (h60 : 60 * m < 2 ^ 63) : cpF 5 63 (60 * m) = cpF 5 63 m + 1 := cp_60 (q := 12) (by decide) hm h60 (by decide) (fun r hr => by omega)
/-- the power of 60, and what is wanting of each -/
def tP (n : Nat) : Nat := max ((cpF 2 63 n + 1) / 2) (max (cpF 3 63 n) (cpF 5 63 n))
def tV (n : Nat) : Nat := 2 ^ (2 * tP n - cpF 2 63 n) * 3 ^ (tP n - cpF 3 63 n) * 5 ^ (tP n - cpF 5 63 n)
theorem tV_60 {m : Nat} (hm : 1 ≤ m) (h60 : 60 * m < 2 ^ 63) : tV (60 * m) = tV m := by
  have e : tP (60 * m) = tP m + 1 := by
    rw [tP, tP, cp2_60 hm h60, cp3_60 hm h60, cp5_60 hm h60]
    omega
  have hl2 : cpF 2 63 m ≤ 2 * tP m := by rw [tP]; omega
  have hl3 : cpF 3 63 m ≤ tP m := by rw [tP]; omega
  have hl5 : cpF 5 63 m ≤ tP m := by rw [tP]; omega
  rw [tV, tV, e, cp2_60 hm h60, cp3_60 hm h60, cp5_60 hm h60]
  rw [show 2 * (tP m + 1) - (cpF 2 63 m + 2) = 2 * tP m - cpF 2 63 m by omega, show tP m + 1 - (cpF 3 63 m + 1) = tP m - cpF 3 63 m by omega, show tP m + 1 - (cpF 5 63 m + 1) = tP m - cpF 5 63 m by omega]
theorem tV_sxF : ∀ (k n : Nat), 1 ≤ n → n < 2 ^ 63 → tV (sxF k n) = tV n := by
  intro k
  induction k with
  | zero => intro n _ _; rfl
  | succ k ih =>
    intro n h1 hn
    rw [sxF]
    split
    · rename_i h
      rw [ih (n / 60) (by omega) (by omega), ← tV_60 (m := n / 60) (by omega) (by omega), show 60 * (n / 60) = n by omega]
    · rfl
theorem tV_sx {n : Nat} (h1 : 1 ≤ n) (hn : n < 2 ^ 63) : tV (sx n) = tV n := tV_sxF 8 n h1 hn
theorem min_mul {E a b : Nat} (hb : 1 ≤ b) : min E (min E a * b) = min E (a * b) := by
  rcases Nat.le_total E a with h | h
  · rw [Nat.min_eq_left h, Nat.min_eq_left (Nat.le_mul_of_pos_right E hb), Nat.min_eq_left (Nat.le_trans h (Nat.le_mul_of_pos_right a hb))]
  · rw [Nat.min_eq_right h]
theorem q_gr_loop (kE : Int64 → Option Int64) (p t : Nat) (hp : 2 ≤ p) (hp2 : p ≤ 5) (ht : t ≤ 200) : ∀ (j i f r : Nat), i + j = t → j < f → r ≤ 167961600000000 → mlX4_grown_6 (nI p) (nI t) kE f (lN r) (nI i) = kE (lN (min 167961600000000 (r * p ^ j))) := by
  intro j
  have el : (nI p).toInt64 = lN p := nI_l (by omega)
  induction j with
  | zero =>
    intro i f r hi hf hr
    obtain ⟨f, rfl⟩ : ∃ g, f = g + 1 := ⟨f - 1, by omega⟩
    rw [mlX4_grown_6, if_pos ((nI_leI (by omega) (by omega)).mpr (by omega)), Nat.pow_zero, Nat.mul_one, Nat.min_eq_right hr]
  | succ j ih =>
    intro i f r hi hf hr
    obtain ⟨f, rfl⟩ : ∃ g, f = g + 1 := ⟨f - 1, by omega⟩
    rw [mlX4_grown_6, if_neg (fun q => by have := (nI_leI (by omega) (by omega)).mp q; omega), el, lN_mul]
    have e3 : nI i + (1 : Int32) = nI (i + 1) := nI_1 i
    have hrp : r * p ≤ 167961600000000 * 5 := Nat.mul_le_mul hr hp2
    have em : (if lN (r * p) < (167961600000000 : Int64) then lN (r * p) else (167961600000000 : Int64)) = lN (min 167961600000000 (r * p)) := by
      by_cases h : r * p < 167961600000000
      · rw [if_pos (show lN (r * p) < (167961600000000 : Int64) from (pk_lLT (b := 167961600000000) (by omega) (by decide)).mpr h), Nat.min_eq_right (by omega)]
      · rw [if_neg (show ¬ lN (r * p) < (167961600000000 : Int64) from fun q => h ((pk_lLT (b := 167961600000000) (by omega) (by decide)).mp q)), Nat.min_eq_left (by omega)]
        rfl
    rw [em]
    simp only [md_let]
    rw [e3, ih (i + 1) f _ (by omega) (by omega) (Nat.min_le_left _ _), min_mul (Nat.pow_pos (by omega)), Nat.pow_succ, Nat.mul_comm (p ^ j), Nat.mul_assoc]
theorem q_gr {p t r : Nat} (hp : 2 ≤ p) (hp2 : p ≤ 5) (ht : t ≤ 200) (hr : r ≤ 167961600000000) : mX4_grown (lN r) (nI p) (nI t) = some (lN (min 167961600000000 (r * p ^ t))) :=
  q_gr_loop _ p t hp hp2 ht t 0 kN r (by omega) (by have : kN = 5000 := rfl; omega) hr
theorem q_max {a b : Nat} (ha : a < 2 ^ 31) (hb : b < 2 ^ 31) : (if nI a < nI b then nI b else nI a) = nI (max a b) := by
  by_cases h : a < b
  · rw [if_pos ((nI_ltI ha hb).mpr h), Nat.max_eq_right (by omega)]
  · rw [if_neg (fun q => h ((nI_ltI ha hb).mp q)), Nat.max_eq_left (by omega)]
theorem q_tover {n : Nat} (hn : n < 2 ^ 62) : mX4_turnOver (lN n) = some (lN (min 167961600000000 (tV n))) := by
  have h2 := cpF_le 2 63 n
  have h3 := cpF_le 3 63 n
  have h5 := cpF_le 5 63 n
  have hP : tP n = max ((cpF 2 63 n + 1) / 2) (max (cpF 3 63 n) (cpF 5 63 n)) := rfl
  rw [mX4_turnOver, show (2 : Int32) = nI 2 from rfl, show (3 : Int32) = nI 3 from rfl, show (5 : Int32) = nI 5 from rfl, q_pi (by decide) (by decide) hn, Option.bind_some, q_pi (by decide) (by decide) hn, Option.bind_some, q_pi (by decide) (by decide) hn, Option.bind_some, tV]
  generalize cpF 2 63 n = a at h2 hP ⊢
  generalize cpF 3 63 n = b at h3 hP ⊢
  generalize cpF 5 63 n = c at h5 hP ⊢
  have e1 : (nI a + (1 : Int32)) / nI 2 = nI ((a + 1) / 2) := by
    rw [show nI a + (1 : Int32) = nI (a + 1) from nI_1 a, pk_div (by omega) (by decide) (by decide)]
  rw [q_max (by omega) (by omega), e1, q_max (by omega) (by omega), ← hP]
  have hP63 : tP n ≤ 63 := by omega
  have ha : a ≤ 2 * tP n := by omega
  have hb : b ≤ tP n := by omega
  have hc : c ≤ tP n := by omega
  generalize tP n = P at hP63 ha hb hc
  simp only [md_let]
  rw [pk_mul, pk_sub ha, pk_sub hb, pk_sub hc, show (1 : Int64) = lN 1 from rfl, q_gr (by decide) (by decide) (by omega) (by decide), Option.bind_some, q_gr (by decide) (by decide) (by omega) (Nat.min_le_left _ _), Option.bind_some, q_gr (by decide) (by decide) (by omega) (Nat.min_le_left _ _), Option.bind_some]
  rw [Nat.one_mul, min_mul (Nat.pow_pos (by decide)), Nat.mul_assoc (min _ _), min_mul (Nat.mul_pos (Nat.pow_pos (by decide)) (Nat.pow_pos (by decide))), ← Nat.mul_assoc]
/-- what the reference carries: the product, or -1 once it is too great -/
def uu (v : Nat) : Int64 := if v < 167961600000000 then lN v else -1
theorem uu_lt {v : Nat} (h : v < 167961600000000) : uu v = lN v := if_pos h
theorem uu_ge {v : Nat} (h : ¬ v < 167961600000000) : uu v = -1 := if_neg h
def fac (a b c i : Nat) : Nat := if i % 4 = 0 ∨ i % 4 = 1 then (if i / 4 * 2 + i % 4 < a then 1 else 2) else if i % 4 = 2 then (if i / 4 < b then 1 else 3) else (if i / 4 < c then 1 else 5)
theorem q_rest (G : Int64 → Option Int64) {v by_ : Nat} (hv : 1 ≤ v) (hb : 2 ≤ by_) (hb2 : by_ ≤ 5) (h : Int32) : (if uu v < (0 : Int64) then G (uu v) else (if h = 0 then G (uu v) else (if (uu v * (Int32.toInt64 (nI by_))) < (167961600000000 : Int64) then G (uu v * (Int32.toInt64 (nI by_))) else G (-1 : Int64)))) = G (uu (v * (if h = 0 then 1 else by_))) := by
  have el : (nI by_).toInt64 = lN by_ := nI_l (by omega)
  by_cases hlt : v < 167961600000000
  · rw [uu_lt hlt, if_neg (show ¬ lN v < (0 : Int64) from fun q => by have := (pk_lLT (b := 0) (by omega) (by decide)).mp q; omega)]
    by_cases h0 : h = 0
    · rw [if_pos h0, if_pos h0, Nat.mul_one, uu_lt hlt]
    · rw [if_neg h0, if_neg h0, el, lN_mul]
      have hbd : v * by_ ≤ 167961600000000 * 5 := Nat.mul_le_mul (by omega) hb2
      by_cases h1 : v * by_ < 167961600000000
      · rw [if_pos (show lN (v * by_) < (167961600000000 : Int64) from (pk_lLT (b := 167961600000000) (by omega) (by decide)).mpr h1), uu_lt h1]
      · rw [if_neg (show ¬ lN (v * by_) < (167961600000000 : Int64) from fun q => h1 ((pk_lLT (b := 167961600000000) (by omega) (by decide)).mp q)), uu_ge h1]
  · rw [uu_ge hlt, if_pos (show (-1 : Int64) < 0 by decide), uu_ge]
    intro q
    have : v ≤ v * (if h = 0 then 1 else by_) := Nat.le_mul_of_pos_right v (by split <;> omega)
    omega
theorem q_rest0 (G : Int64 → Option Int64) {v by_ : Nat} (hv : 1 ≤ v) (hb : 2 ≤ by_) (hb2 : by_ ≤ 5) : (if uu v < (0 : Int64) then G (uu v) else (if (0 : Int32) = 0 then G (uu v) else (if (uu v * (Int32.toInt64 (nI by_))) < (167961600000000 : Int64) then G (uu v * (Int32.toInt64 (nI by_))) else G (-1 : Int64)))) = G (uu (v * 1)) := (q_rest G hv hb hb2 0).trans (by rw [if_pos (show (0 : Int32) = 0 from rfl)])
theorem q_rest1 (G : Int64 → Option Int64) {v by_ : Nat} (hv : 1 ≤ v) (hb : 2 ≤ by_) (hb2 : by_ ≤ 5) : (if uu v < (0 : Int64) then G (uu v) else (if (1 : Int32) = 0 then G (uu v) else (if (uu v * (Int32.toInt64 (nI by_))) < (167961600000000 : Int64) then G (uu v * (Int32.toInt64 (nI by_))) else G (-1 : Int64)))) = G (uu (v * by_)) := (q_rest G hv hb hb2 1).trans (by rw [if_neg h10])
theorem n32 : ¬ nI 3 = (2 : Int32) := fun q => absurd ((nI_eq (a := 3) (b := 2) (by decide) (by decide)).mp q) (by decide)
theorem q_td_step (kE : Int64 → Option Int64) {a b c k i f v : Nat} (ha : a ≤ 63) (hb : b ≤ 63) (hc : c ≤ 63) (hk : k ≤ 63) (hi : i < 4 * k) (hv : 1 ≤ v) : mlX7_turnedOf_72 (nI a) (nI b) (nI c) (nI k) kE (f + 1) (uu v) (nI i) = mlX7_turnedOf_72 (nI a) (nI b) (nI c) (nI k) kE f (uu (v * fac a b c i)) (nI (i + 1)) := by
  have er : nI i - nI i / (4 : Int32) * (4 : Int32) = nI (i % 4) := pk_rem (d := 4) (by omega) (by decide) (by decide)
  have ed : nI i / (4 : Int32) = nI (i / 4) := pk_div (d := 4) (by omega) (by decide) (by decide)
  have e4 : (4 : Int32) * nI k = nI (4 * k) := pk_mul 4 k
  have e3 : nI i + (1 : Int32) = nI (i + 1) := nI_1 i
  rw [mlX7_turnedOf_72, e4, if_neg (fun q => by have := (nI_leI (by omega) (by omega)).mp q; omega), er, ed]
  simp only [md_jn, md_let, e3]
  rw [fac]
  have hj : i % 4 < 4 := Nat.mod_lt _ (by decide)
  have n2 : (2 : Int32) = nI 2 := rfl
  rcases (show i % 4 = 0 ∨ i % 4 = 1 ∨ i % 4 = 2 ∨ i % 4 = 3 by omega) with h | h | h | h
  · rw [h, if_neg (show ¬ (2 : Int32) ≤ nI 0 by decide), if_neg (show ¬ (2 : Int32) ≤ nI 0 by decide), if_pos (Or.inl rfl)]
    have e5 : nI (i / 4) * (2 : Int32) + nI 0 = nI (i / 4 * 2 + 0) := by rw [n2, pk_mul, nI_add]
    rw [e5]
    by_cases hq : i / 4 * 2 + 0 < a
    · rw [if_pos ((nI_ltI (by omega) (by omega)).mpr hq), if_pos hq, n2]
      exact q_rest0 (fun u => mlX7_turnedOf_72 (nI a) (nI b) (nI c) (nI k) kE f u (nI (i + 1))) (by_ := 2) hv (by decide) (by decide)
    · rw [if_neg (fun z => hq ((nI_ltI (by omega) (by omega)).mp z)), if_neg hq, n2]
      exact q_rest1 (fun u => mlX7_turnedOf_72 (nI a) (nI b) (nI c) (nI k) kE f u (nI (i + 1))) (by_ := 2) hv (by decide) (by decide)
  · rw [h, if_neg (show ¬ (2 : Int32) ≤ nI 1 by decide), if_neg (show ¬ (2 : Int32) ≤ nI 1 by decide), if_pos (Or.inr rfl)]
    have e5 : nI (i / 4) * (2 : Int32) + nI 1 = nI (i / 4 * 2 + 1) := by rw [n2, pk_mul, nI_add]
    rw [e5]
    by_cases hq : i / 4 * 2 + 1 < a
    · rw [if_pos ((nI_ltI (by omega) (by omega)).mpr hq), if_pos hq, n2]
      exact q_rest0 (fun u => mlX7_turnedOf_72 (nI a) (nI b) (nI c) (nI k) kE f u (nI (i + 1))) (by_ := 2) hv (by decide) (by decide)
    · rw [if_neg (fun z => hq ((nI_ltI (by omega) (by omega)).mp z)), if_neg hq, n2]
      exact q_rest1 (fun u => mlX7_turnedOf_72 (nI a) (nI b) (nI c) (nI k) kE f u (nI (i + 1))) (by_ := 2) hv (by decide) (by decide)
  · rw [h, if_pos (show (2 : Int32) ≤ nI 2 by decide), if_pos (show (2 : Int32) ≤ nI 2 by decide), if_pos (show nI 2 = (2 : Int32) from rfl), if_pos (show nI 2 = (2 : Int32) from rfl), if_neg (show ¬ ((2 : Nat) = 0 ∨ (2 : Nat) = 1) by decide), if_pos (show (2 : Nat) = 2 from rfl)]
    by_cases hq : i / 4 < b
    · rw [if_pos ((nI_ltI (by omega) (by omega)).mpr hq), if_pos hq, show (3 : Int32) = nI 3 from rfl]
      exact q_rest0 (fun u => mlX7_turnedOf_72 (nI a) (nI b) (nI c) (nI k) kE f u (nI (i + 1))) (by_ := 3) hv (by decide) (by decide)
    · rw [if_neg (fun z => hq ((nI_ltI (by omega) (by omega)).mp z)), if_neg hq, show (3 : Int32) = nI 3 from rfl]
      exact q_rest1 (fun u => mlX7_turnedOf_72 (nI a) (nI b) (nI c) (nI k) kE f u (nI (i + 1))) (by_ := 3) hv (by decide) (by decide)
  · rw [h, if_pos (show (2 : Int32) ≤ nI 3 by decide), if_neg n32, if_pos (show (2 : Int32) ≤ nI 3 by decide), if_neg n32, if_neg (show ¬ ((3 : Nat) = 0 ∨ (3 : Nat) = 1) by decide), if_neg (show ¬ (3 : Nat) = 2 by decide)]
    by_cases hq : i / 4 < c
    · rw [if_pos ((nI_ltI (by omega) (by omega)).mpr hq), if_pos hq, show (5 : Int32) = nI 5 from rfl]
      exact q_rest0 (fun u => mlX7_turnedOf_72 (nI a) (nI b) (nI c) (nI k) kE f u (nI (i + 1))) (by_ := 5) hv (by decide) (by decide)
    · rw [if_neg (fun z => hq ((nI_ltI (by omega) (by omega)).mp z)), if_neg hq, show (5 : Int32) = nI 5 from rfl]
      exact q_rest1 (fun u => mlX7_turnedOf_72 (nI a) (nI b) (nI c) (nI k) kE f u (nI (i + 1))) (by_ := 5) hv (by decide) (by decide)
theorem fac_pos (a b c i : Nat) : 1 ≤ fac a b c i := by
  rw [fac]
  repeat (first | split | omega)
theorem fac4 (a b c g : Nat) : 2 ^ (2 * g - a) * 3 ^ (g - b) * 5 ^ (g - c) * fac a b c (4 * g) * fac a b c (4 * g + 1) * fac a b c (4 * g + 2) * fac a b c (4 * g + 3) = 2 ^ (2 * (g + 1) - a) * 3 ^ (g + 1 - b) * 5 ^ (g + 1 - c) := by
  have f0 : fac a b c (4 * g) = if 2 * g < a then 1 else 2 := by
    rw [fac, if_pos (Or.inl (by omega)), show 4 * g / 4 * 2 + 4 * g % 4 = 2 * g by omega]
  have f1 : fac a b c (4 * g + 1) = if 2 * g + 1 < a then 1 else 2 := by
    rw [fac, if_pos (Or.inr (by omega)), show (4 * g + 1) / 4 * 2 + (4 * g + 1) % 4 = 2 * g + 1 by omega]
  have f2 : fac a b c (4 * g + 2) = if g < b then 1 else 3 := by
    rw [fac, if_neg (by omega), if_pos (by omega), show (4 * g + 2) / 4 = g by omega]
  have f3 : fac a b c (4 * g + 3) = if g < c then 1 else 5 := by
    rw [fac, if_neg (by omega), if_neg (by omega), show (4 * g + 3) / 4 = g by omega]
  have e2 : 2 ^ (2 * (g + 1) - a) = 2 ^ (2 * g - a) * fac a b c (4 * g) * fac a b c (4 * g + 1) := by
    rw [f0, f1]
    rcases (show a ≤ 2 * g ∨ a = 2 * g + 1 ∨ 2 * g + 2 ≤ a by omega) with h | h | h
    · rw [if_neg (by omega), if_neg (by omega), show 2 * (g + 1) - a = 2 * g - a + 1 + 1 by omega, Nat.pow_succ, Nat.pow_succ]
    · rw [if_pos (by omega), if_neg (by omega), show 2 * (g + 1) - a = 1 by omega, show 2 * g - a = 0 by omega]
    · rw [if_pos (by omega), if_pos (by omega), show 2 * (g + 1) - a = 0 by omega, show 2 * g - a = 0 by omega]
  have e3 : 3 ^ (g + 1 - b) = 3 ^ (g - b) * fac a b c (4 * g + 2) := by
    rw [f2]
    by_cases h : g < b
    · rw [if_pos h, show g + 1 - b = 0 by omega, show g - b = 0 by omega]
    · rw [if_neg h, show g + 1 - b = g - b + 1 by omega, Nat.pow_succ]
  have e5 : 5 ^ (g + 1 - c) = 5 ^ (g - c) * fac a b c (4 * g + 3) := by
    rw [f3]
    by_cases h : g < c
    · rw [if_pos h, show g + 1 - c = 0 by omega, show g - c = 0 by omega]
    · rw [if_neg h, show g + 1 - c = g - c + 1 by omega, Nat.pow_succ]
  rw [e2, e3, e5]
  ac_rfl
theorem q_td_loop (kE : Int64 → Option Int64) {a b c k : Nat} (ha : a ≤ 63) (hb : b ≤ 63) (hc : c ≤ 63) (hk : k ≤ 63) : ∀ (j g f : Nat), g + j = k → 4 * j < f → mlX7_turnedOf_72 (nI a) (nI b) (nI c) (nI k) kE f (uu (2 ^ (2 * g - a) * 3 ^ (g - b) * 5 ^ (g - c))) (nI (4 * g)) = kE (uu (2 ^ (2 * k - a) * 3 ^ (k - b) * 5 ^ (k - c))) := by
  intro j
  induction j with
  | zero =>
    intro g f hg hf
    obtain ⟨f, rfl⟩ : ∃ z, f = z + 1 := ⟨f - 1, by omega⟩
    have e4 : (4 : Int32) * nI k = nI (4 * k) := pk_mul 4 k
    rw [mlX7_turnedOf_72, e4, if_pos ((nI_leI (by omega) (by omega)).mpr (by omega)), show g = k by omega]
  | succ j ih =>
    intro g f hg hf
    obtain ⟨f, rfl⟩ : ∃ z, f = z + 1 + 1 + 1 + 1 := ⟨f - 4, by omega⟩
    have hpos : 1 ≤ 2 ^ (2 * g - a) * 3 ^ (g - b) * 5 ^ (g - c) := Nat.mul_pos (Nat.mul_pos (Nat.pow_pos (by decide)) (Nat.pow_pos (by decide))) (Nat.pow_pos (by decide))
    have e := fac4 a b c g
    have q0 := fac_pos a b c (4 * g)
    have q1 := fac_pos a b c (4 * g + 1)
    have q2 := fac_pos a b c (4 * g + 2)
    have q3 := fac_pos a b c (4 * g + 3)
    rw [q_td_step kE ha hb hc hk (by omega) hpos, q_td_step kE ha hb hc hk (by omega) (Nat.mul_pos hpos q0), q_td_step kE ha hb hc hk (by omega) (Nat.mul_pos (Nat.mul_pos hpos q0) q1), q_td_step kE ha hb hc hk (by omega) (Nat.mul_pos (Nat.mul_pos (Nat.mul_pos hpos q0) q1) q2), e]
    exact ih (g + 1) f (by omega) (by omega)
theorem q_maxR {a b : Nat} {α : Type} (F : Int32 → α) (ha : a < 2 ^ 31) (hb : b < 2 ^ 31) : (if nI b ≤ nI a then F (nI a) else F (nI b)) = F (nI (max a b)) := by
  by_cases h : b ≤ a
  · rw [if_pos ((nI_leI hb ha).mpr h), Nat.max_eq_left h]
  · rw [if_neg (fun q => h ((nI_leI hb ha).mp q)), Nat.max_eq_right (by omega)]
theorem q_tof {n : Nat} (h1 : 1 ≤ n) (hn : n < 167961600000000) : mX7_turnedOf (lN n) = some (uu (tV n)) := by
  have hs := sx_le n
  have hs1 := sx_pos h1
  have h2 := cpF_le 2 63 (sx n)
  have h3 := cpF_le 3 63 (sx n)
  have h5 := cpF_le 5 63 (sx n)
  have hP : tP (sx n) = max ((cpF 2 63 (sx n) + 1) / 2) (max (cpF 3 63 (sx n)) (cpF 5 63 (sx n))) := rfl
  rw [← tV_sx h1 (by omega), mX7_turnedOf, q_six h1 hn, Option.bind_some, show (2 : Int32) = nI 2 from rfl, show (3 : Int32) = nI 3 from rfl, show (5 : Int32) = nI 5 from rfl, q_ti (by decide) (by decide) hs1 (by omega), Option.bind_some, q_ti (by decide) (by decide) hs1 (by omega), Option.bind_some, q_ti (by decide) (by decide) hs1 (by omega), Option.bind_some, tV]
  generalize cpF 2 63 (sx n) = a at h2 hP ⊢
  generalize cpF 3 63 (sx n) = b at h3 hP ⊢
  generalize cpF 5 63 (sx n) = c at h5 hP ⊢
  have e1 : (nI a + (1 : Int32)) / nI 2 = nI ((a + 1) / 2) := by
    rw [show nI a + (1 : Int32) = nI (a + 1) from nI_1 a, pk_div (by omega) (by decide) (by decide)]
  rw [e1]
  simp only [md_let, md_jn]
  have hm : max (max ((a + 1) / 2) b) c = tP (sx n) := by omega
  have hP63 : tP (sx n) ≤ 63 := by omega
  have key : ∀ z : Nat, z ≤ 63 → (if nI c ≤ nI z then mlX7_turnedOf_72 (nI a) (nI b) (nI c) (nI z) (fun y8_231 => some y8_231) kN 1 0 else mlX7_turnedOf_72 (nI a) (nI b) (nI c) (nI c) (fun y8_231 => some y8_231) kN 1 0) = mlX7_turnedOf_72 (nI a) (nI b) (nI c) (nI (max z c)) (fun y8_231 => some y8_231) kN 1 0 := fun z hz => q_maxR (fun t => mlX7_turnedOf_72 (nI a) (nI b) (nI c) t (fun y8_231 => some y8_231) kN 1 0) (by omega) (by omega)
  rw [key _ (by omega), key _ h3]
  have key2 : (if nI b ≤ nI ((a + 1) / 2) then mlX7_turnedOf_72 (nI a) (nI b) (nI c) (nI (max ((a + 1) / 2) c)) (fun y8_231 => some y8_231) kN 1 0 else mlX7_turnedOf_72 (nI a) (nI b) (nI c) (nI (max b c)) (fun y8_231 => some y8_231) kN 1 0) = mlX7_turnedOf_72 (nI a) (nI b) (nI c) (nI (tP (sx n))) (fun y8_231 => some y8_231) kN 1 0 := by
    by_cases hb : b ≤ (a + 1) / 2
    · rw [if_pos ((nI_leI (by omega) (by omega)).mpr hb), ← hm, Nat.max_eq_left (a := (a + 1) / 2) (b := b) hb]
    · rw [if_neg (fun q => hb ((nI_leI (by omega) (by omega)).mp q)), ← hm, Nat.max_eq_right (a := (a + 1) / 2) (b := b) (by omega)]
  rw [key2]
  have := q_td_loop (fun y => some y) h2 h3 h5 hP63 (tP (sx n)) 0 kN (by omega) (by have : kN = 5000 := rfl; omega)
  rw [Nat.mul_zero, Nat.zero_sub, Nat.zero_sub, Nat.zero_sub] at this
  have e0 : uu (2 ^ 0 * 3 ^ 0 * 5 ^ 0) = (1 : Int64) := uu_lt (by decide)
  rw [e0] at this
  exact this
/-- turned -/
theorem op_turned (p : Int64) : ∃ r, mX6_turned p = some r ∧ mX7_turned p = some r := by
  rcases q_dom p with ⟨h1, h2⟩ | ⟨n, ha, hb, rfl, h1, h2⟩
  · refine ⟨-1000000000000000002, ?_, ?_⟩
    · rw [mX6_turned, h1]; rfl
    · rw [mX7_turned, h2]; rfl
  rw [mX6_turned, h1, Option.bind_some, if_neg h10]
  rw [mX7_turned, h2, Option.bind_some, if_neg h10]
  rcases q_evX ha (by omega) with ⟨-, h3, h4⟩ | ⟨-, h3, h4⟩
  · rw [h3, h4, Option.bind_some, Option.bind_some, if_neg h10, if_neg h10, q_tover (by omega), q_tof ha hb, Option.bind_some, Option.bind_some]
    by_cases h : tV n < 167961600000000
    · rw [uu_lt h, Nat.min_eq_right (by omega), if_neg (show ¬ (167961600000000 : Int64) ≤ lN (tV n) from fun q => by have := (pk_lLE (a := 167961600000000) (by decide) (by omega)).mp q; omega), if_pos (show (0 : Int64) ≤ lN (tV n) from (pk_lLE (a := 0) (by decide) (by omega)).mpr (by omega))]
      exact ⟨_, rfl, rfl⟩
    · rw [uu_ge h, Nat.min_eq_left (by omega)]
      exact ⟨_, rfl, rfl⟩
  · rw [h3, h4]
    exact ⟨_, rfl, rfl⟩
