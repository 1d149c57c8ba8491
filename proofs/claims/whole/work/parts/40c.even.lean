theorem q_root_loop (kE : Int64 → Option Int64) (p : Nat) (hp : p ≤ 3) : ∀ (j i f x : Nat), i + j = p → j < f → x < 604661760000000000 → mlX6_root_26 (nI p) kE f (lN x) (nI i) = if x * 3600 ^ j < 604661760000000000 then kE (lN (x * 3600 ^ j)) else some (-1000000000000000004) := by
  intro j
  induction j with
  | zero =>
    intro i f x hi hf hx
    obtain ⟨f, rfl⟩ : ∃ g, f = g + 1 := ⟨f - 1, by omega⟩
    rw [mlX6_root_26, if_pos ((nI_leI (by omega) (by omega)).mpr (by omega)), Nat.pow_zero, Nat.mul_one, if_pos hx]
  | succ j ih =>
    intro i f x hi hf hx
    obtain ⟨f, rfl⟩ : ∃ g, f = g + 1 := ⟨f - 1, by omega⟩
    rw [mlX6_root_26, if_neg (fun q => by have := (nI_leI (by omega) (by omega)).mp q; omega)]
    have e3 : nI i + (1 : Int32) = nI (i + 1) := nI_1 i
    have hpw : 0 < 3600 ^ j := Nat.pow_pos (by decide)
    have e4 : x * 3600 ^ (j + 1) = x * 3600 * 3600 ^ j := by rw [Nat.pow_succ, Nat.mul_comm (3600 ^ j), ← Nat.mul_assoc]
    by_cases h : x < 167961600000000
    · rw [if_pos (show lN x < (167961600000000 : Int64) from (pk_lLT (b := 167961600000000) (by omega) (by decide)).mpr h)]
      have e1 : lN x * (3600 : Int64) = lN (x * 3600) := lN_mul x 3600
      simp only [md_let]
      rw [e1, e3, ih (i + 1) f (x * 3600) (by omega) (by omega) (by omega), e4]
    · rw [if_neg (show ¬ lN x < (167961600000000 : Int64) from fun q => h ((pk_lLT (b := 167961600000000) (by omega) (by decide)).mp q))]
      rw [if_neg]
      rw [e4]
      have := Nat.le_mul_of_pos_right (x * 3600) hpw
      omega
theorem bind_some' {α β : Type} (a : α) (k : α → Option β) : Option.bind (some a) k = k a := rfl
/-- root -/
theorem op_root (v : Int64) (p : Int32) : ∃ r, mX6_root v p = some r ∧ mX7_root v p = some r := by
  rcases q_dom v with ⟨h1, h2⟩ | ⟨n, ha, hb, rfl, h1, h2⟩
  · refine ⟨-1000000000000000002, ?_, ?_⟩
    · rw [mX6_root, h1]; rfl
    · rw [mX7_root, h2]; rfl
  rw [mX6_root, h1, Option.bind_some, if_neg h10]
  rw [mX7_root, h2, Option.bind_some, if_neg h10]
  rcases q_inI p (n := 3) (by decide) with ⟨hz, hc, hd⟩ | ⟨j, hj, rfl, hz⟩
  · rw [show (3 : Int64) = lN 3 from rfl, hz, Option.bind_some, if_pos (show (0 : Int32) = 0 from rfl)]
    refine ⟨-1000000000000000002, ?_, rfl⟩
    by_cases h0 : p < 0
    · rw [if_pos h0]
    · rw [if_neg h0, if_neg]
      intro q
      have h4 := hc.resolve_left h0
      rw [Int32.le_iff_toInt_le] at h4 q
      have e3 : (3 : Int32).toInt = 3 := by decide
      have e4 : (nI (3 + 1)).toInt = 4 := by decide
      omega
  · rw [show (3 : Int64) = lN 3 from rfl, hz, Option.bind_some, if_neg h10, if_neg (nI_pos (by omega)), if_pos (show nI j ≤ (3 : Int32) from (nI_leI (b := 3) (by omega) (by decide)).mpr hj)]
    have e2 : (2 : Int32) * nI j = nI (2 * j) := pk_mul 2 j
    rw [show (0 : Int32) = nI 0 from rfl, q_root_loop _ j hj j 0 kN n (by omega) (by have : kN = 5000 := rfl; omega) (by omega)]
    rw [e2, show (10 : Int32) = nI 10 from rfl, q_power (k := 10) (by decide), Option.bind_some, q_power (k := 2 * j) (by omega), Option.bind_some]
    have hpp := p60_lt (k := 2 * j) (by omega)
    have hpq := p60_pos (2 * j)
    rw [if_neg (show ¬ lN (60 ^ (2 * j)) = (0 : Int64) from fun q => by have := (pk_lEQ (b := 0) (by omega) (by decide)).mp q; omega)]
    have e6 : (60 : Nat) ^ (2 * j) = 3600 ^ j := by rw [Nat.pow_mul]
    have e5 : lN (60 ^ 10) - (1 : Int64) = lN (604661760000000000 - 1) := lN_sub (a := 60 ^ 10) (b := 1) (by decide)
    rw [e5, pk_lDiv (a := 604661760000000000 - 1) (by decide) hpq (by omega), lN_mul, e6]
    rw [e6] at hpp hpq
    have hle : (604661760000000000 - 1) / 3600 ^ j ≤ 604661760000000000 - 1 := Nat.div_le_self _ _
    by_cases h : n * 3600 ^ j < 604661760000000000
    · have h3 : n ≤ (604661760000000000 - 1) / 3600 ^ j := (Nat.le_div_iff_mul_le hpq).mpr (by omega)
      rw [if_pos h, if_pos ((pk_lLE (by omega) (by omega)).mpr h3)]
      obtain ⟨r, -, -, h4, h5⟩ := q_rt h
      rw [h4, h5]
      exact ⟨_, rfl, rfl⟩
    · rw [if_neg h, if_neg (fun q => h (by
        have h3 := (pk_lLE (by omega) (by omega)).mp q
        have := (Nat.le_div_iff_mul_le hpq).mp h3
        omega))]
      exact ⟨_, rfl, rfl⟩
/-! EVEN -/
def woF (p : Nat) : Nat → Nat → Nat
  | 0, n => n
  | k + 1, n => if n % p = 0 then woF p k (n / p) else n
theorem woF_pos (p : Nat) (hp : 1 ≤ p) : ∀ (k n : Nat), 1 ≤ n → 1 ≤ woF p k n := by
  intro k
  induction k with
  | zero => intro n h; exact h
  | succ k ih =>
    intro n h
    rw [woF]
    split
    · rename_i h0
      exact ih _ ((Nat.one_le_div_iff hp).mpr (Nat.le_of_dvd h (Nat.dvd_of_mod_eq_zero h0)))
    · exact h
theorem woF_le (p : Nat) : ∀ (k n : Nat), woF p k n ≤ n := by
  intro k
  induction k with
  | zero => intro n; exact Nat.le_refl _
  | succ k ih =>
    intro n
    rw [woF]
    split
    · exact Nat.le_trans (ih _) (Nat.div_le_self _ _)
    · exact Nat.le_refl _
theorem div_lt2 {n p k : Nat} (hp : 2 ≤ p) (h : n < 2 ^ (k + 1)) : n / p < 2 ^ k := by
  have h1 : n / p ≤ n / 2 := Nat.div_le_div_left hp (by decide)
  rw [Nat.pow_succ] at h
  omega
theorem woF_ne (p : Nat) (hp : 2 ≤ p) : ∀ (k n : Nat), 1 ≤ n → n < 2 ^ k → woF p k n % p ≠ 0 := by
  intro k
  induction k with
  | zero => intro n h1 h2; simp at h2; omega
  | succ k ih =>
    intro n h1 h2
    rw [woF]
    split
    · rename_i h0
      exact ih _ ((Nat.one_le_div_iff (by omega)).mpr (Nat.le_of_dvd h1 (Nat.dvd_of_mod_eq_zero h0))) (div_lt2 hp h2)
    · assumption
theorem woF_odd : ∀ (k n : Nat), n % 2 = 1 → woF 3 k n % 2 = 1 := by
  intro k
  induction k with
  | zero => intro n h; exact h
  | succ k ih =>
    intro n h
    rw [woF]
    split
    · exact ih _ (by omega)
    · exact h
theorem q_rem0 {n d : Nat} (hn : n < 2 ^ 63) (h0 : 0 < d) (hd : d < 2 ^ 63) : (lN n - lN n / lN d * lN d = 0) ↔ n % d = 0 := q_rem hn h0 hd
theorem q_wo_loop (kE : Int64 → Option Int64) (p : Nat) (hp : 2 ≤ p) (hp2 : p ≤ 5) : ∀ (j i f n : Nat), i + j = 63 → j < f → n < 2 ^ 62 → mlX4_without_5 (nI p) kE f (lN n) (nI i) = kE (lN (woF p j n)) := by
  intro j
  have el : (nI p).toInt64 = lN p := nI_l (by omega)
  have hne : ¬ lN p = (0 : Int64) := fun q => by have := (pk_lEQ (b := 0) (by omega) (by decide)).mp q; omega
  induction j with
  | zero =>
    intro i f n hi hf hn
    obtain ⟨f, rfl⟩ : ∃ g, f = g + 1 := ⟨f - 1, by omega⟩
    rw [mlX4_without_5, if_pos (show (63 : Int32) ≤ nI i from (nI_leI (a := 63) (by decide) (by omega)).mpr (by omega))]
    rfl
  | succ j ih =>
    intro i f n hi hf hn
    obtain ⟨f, rfl⟩ : ∃ g, f = g + 1 := ⟨f - 1, by omega⟩
    rw [mlX4_without_5, if_neg (show ¬ (63 : Int32) ≤ nI i from fun q => by have := (nI_leI (a := 63) (by decide) (by omega)).mp q; omega), if_neg (show ¬ nI p ≤ (1 : Int32) from fun q => by have := (nI_leI (b := 1) (by omega) (by decide)).mp q; omega), el, if_neg hne, if_neg hne]
    by_cases h : n % p = 0
    · rw [if_pos ((q_rem0 (by omega) (by omega) (by omega)).mpr h)]
      have e3 : nI i + (1 : Int32) = nI (i + 1) := nI_1 i
      simp only [md_let]
      rw [pk_lDiv (by omega) (by omega) (by omega), e3, ih (i + 1) f (n / p) (by omega) (by omega) (Nat.lt_of_le_of_lt (Nat.div_le_self _ _) hn), woF, if_pos h]
    · rw [if_neg (fun q => h ((q_rem0 (by omega) (by omega) (by omega)).mp q)), woF, if_neg h]
theorem q_wo {p n : Nat} (hp : 2 ≤ p) (hp2 : p ≤ 5) (hn : n < 2 ^ 62) : mX4_without (lN n) (nI p) = some (lN (woF p 63 n)) := q_wo_loop _ p hp hp2 63 0 kN n rfl (by decide) hn
theorem q_we_loop (kE : Int64 → Option Int32) (p : Nat) (hp : 2 ≤ p) (hp2 : p ≤ 5) : ∀ (m f n : Nat), m ≤ 63 → m < f → 1 ≤ n → n < 2 ^ m → mlX7_isEven_12 (nI p) kE f (lN n) = kE (lN (woF p m n)) := by
  intro m
  have el : (nI p).toInt64 = lN p := nI_l (by omega)
  have hne : ¬ lN p = (0 : Int64) := fun q => by have := (pk_lEQ (b := 0) (by omega) (by decide)).mp q; omega
  induction m with
  | zero => intro f n _ _ h1 h2; simp at h2; omega
  | succ m ih =>
    intro f n hm hf h1 hn
    obtain ⟨f, rfl⟩ : ∃ g, f = g + 1 := ⟨f - 1, by omega⟩
    have hb : n < 2 ^ 63 := Nat.lt_of_lt_of_le hn (Nat.pow_le_pow_right (by decide) hm)
    rw [mlX7_isEven_12, el, if_neg hne, if_neg hne]
    by_cases h : n % p = 0
    · rw [if_pos ((q_rem0 hb (by omega) (by omega)).mpr h)]
      simp only [md_let]
      rw [pk_lDiv hb (by omega) (by omega), ih f (n / p) (by omega) (by omega) ((Nat.one_le_div_iff (by omega)).mpr (Nat.le_of_dvd h1 (Nat.dvd_of_mod_eq_zero h))) (div_lt2 hp hn), woF, if_pos h]
    · rw [if_neg (fun q => h ((q_rem0 hb (by omega) (by omega)).mp q)), woF, if_neg h]
theorem q_ev_step (kE : Int64 → Option Int32) {b n f : Nat} (hb : 2 ≤ b) (hb2 : b ≤ 5) (h1 : 1 ≤ n) (hn : n < 2 ^ 62) : mlX7_isEven_5 kE (f + 1) (lN n) (nI b) = mlX7_isEven_5 kE f (lN (woF b 63 n)) (nI (b + 1)) := by
  rw [mlX7_isEven_5, if_neg (show ¬ (6 : Int32) ≤ nI b from fun q => by have := (nI_leI (a := 6) (by decide) (by omega)).mp q; omega), q_we_loop _ b hb hb2 63 kN n (by decide) (by decide) h1 (by omega)]
  show mlX7_isEven_5 kE f _ (nI b + 1) = _
  rw [show nI b + (1 : Int32) = nI (b + 1) from nI_1 b]
def ev (n : Nat) : Prop := woF 5 63 (woF 3 63 (woF 2 63 n)) = 1
theorem q_evX {n : Nat} (h1 : 1 ≤ n) (hn : n < 2 ^ 62) : (ev n ∧ mX4_isEven (lN n) = some 1 ∧ mX7_isEven (lN n) = some 1) ∨ (¬ ev n ∧ mX4_isEven (lN n) = some 0 ∧ mX7_isEven (lN n) = some 0) := by
  have a1 := woF_le 2 63 n
  have a2 := woF_le 3 63 (woF 2 63 n)
  have b1 := woF_pos 2 (by decide) 63 n h1
  have b2 := woF_pos 3 (by decide) 63 _ b1
  have a3 := woF_le 5 63 (woF 3 63 (woF 2 63 n))
  have o1 : woF 2 63 n % 2 = 1 := by have := woF_ne 2 (by decide) 63 n h1 (by omega); omega
  have o2 := woF_odd 63 _ o1
  have e4 : woF 4 63 (woF 3 63 (woF 2 63 n)) = woF 3 63 (woF 2 63 n) := by rw [woF, if_neg (by omega)]
  have hX : mX4_isEven (lN n) = if lN (woF 5 63 (woF 3 63 (woF 2 63 n))) = (1 : Int64) then some 1 else some 0 := by
    rw [mX4_isEven, show (2 : Int32) = nI 2 from rfl, show (3 : Int32) = nI 3 from rfl, show (5 : Int32) = nI 5 from rfl, q_wo (by decide) (by decide) hn, Option.bind_some, q_wo (by decide) (by decide) (by omega), Option.bind_some, q_wo (by decide) (by decide) (by omega), Option.bind_some]
  have hR : mX7_isEven (lN n) = if lN (woF 5 63 (woF 3 63 (woF 2 63 n))) = (1 : Int64) then some 1 else some 0 := by
    rw [mX7_isEven, show kN = 4995 + 1 + 1 + 1 + 1 + 1 from rfl, show (2 : Int32) = nI 2 from rfl, q_ev_step _ (by decide) (by decide) h1 hn, q_ev_step _ (by decide) (by decide) b1 (by omega), q_ev_step _ (by decide) (by decide) b2 (by omega), e4, q_ev_step _ (by decide) (by decide) b2 (by omega), mlX7_isEven_5, if_pos (by decide)]
  rw [hX, hR]
  by_cases h : ev n
  · left
    rw [ev] at h
    refine ⟨h, ?_, ?_⟩ <;> rw [h] <;> rfl
  · right
    have hq : ¬ lN (woF 5 63 (woF 3 63 (woF 2 63 n))) = (1 : Int64) := fun q => h ((pk_lEQ (b := 1) (by omega) (by decide)).mp q)
    refine ⟨h, ?_, ?_⟩ <;> rw [if_neg hq]
/-- even -/
theorem op_even (p : Int64) : ∃ r, mX6_even p = some r ∧ mX7_even p = some r := by
  rcases q_dom p with ⟨h1, h2⟩ | ⟨n, ha, hb, rfl, h1, h2⟩
  · refine ⟨-2, ?_, ?_⟩
    · rw [mX6_even, h1]; rfl
    · rw [mX7_even, h2]; rfl
  · rw [mX6_even, h1, Option.bind_some, if_neg h10]
    rw [mX7_even, h2, Option.bind_some, if_neg h10]
    rcases q_evX ha (by omega) with ⟨-, h3, h4⟩ | ⟨-, h3, h4⟩ <;> rw [h3, h4] <;> exact ⟨_, rfl, rfl⟩
