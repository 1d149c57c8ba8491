theorem q_raise_loop (kE : Int64 → Option Int64) (k : Nat) (hk : k ≤ 7) : ∀ (j i f r : Nat), i + j = k → j < f → r ≤ 167961600000000 → mlX1_raise_5 (nI k) kE f (lN r) (nI i) = kE (lN (min 167961600000000 (r * 60 ^ j))) := by
  intro j
  induction j with
  | zero =>
    intro i f r hi hf hr
    obtain ⟨f, rfl⟩ : ∃ g, f = g + 1 := ⟨f - 1, by omega⟩
    rw [mlX1_raise_5, if_pos ((nI_leI (by omega) (by omega)).mpr (by omega)), Nat.pow_zero, Nat.mul_one, Nat.min_eq_right hr]
  | succ j ih =>
    intro i f r hi hf hr
    obtain ⟨f, rfl⟩ : ∃ g, f = g + 1 := ⟨f - 1, by omega⟩
    rw [mlX1_raise_5, if_neg (fun q => by have := (nI_leI (by omega) (by omega)).mp q; omega)]
    have e3 : nI i + (1 : Int32) = nI (i + 1) := nI_1 i
    have hp : 0 < 60 ^ j := Nat.pow_pos (by decide)
    simp only [md_jn, md_let, e3]
    by_cases h : r < 2799360000000
    · rw [if_pos (show lN r < (2799360000000 : Int64) from (pk_lLT (b := 2799360000000) (by omega) (by decide)).mpr h)]
      have e1 : lN r * (60 : Int64) = lN (r * 60) := lN_mul r 60
      rw [e1, ih (i + 1) f (r * 60) (by omega) (by omega) (by omega), Nat.pow_succ, Nat.mul_assoc, Nat.mul_comm 60]
    · rw [if_neg (show ¬ lN r < (2799360000000 : Int64) from fun q => h ((pk_lLT (b := 2799360000000) (by omega) (by decide)).mp q))]
      have e1 := ih (i + 1) f 167961600000000 (by omega) (by omega) (by omega)
      rw [show (167961600000000 : Int64) = lN 167961600000000 from rfl, e1]
      have h1 : 167961600000000 ≤ 167961600000000 * 60 ^ j := Nat.le_mul_of_pos_right _ hp
      have h2 : 167961600000000 ≤ r * 60 ^ (j + 1) := by
        rw [Nat.pow_succ, Nat.mul_comm (60 ^ j), ← Nat.mul_assoc]
        exact Nat.le_trans (by omega) (Nat.le_mul_of_pos_right (r * 60) hp)
      rw [Nat.min_eq_left h1, Nat.min_eq_left h2]
theorem q_raise {n k : Nat} (hn : n < 167961600000000) (hk : k ≤ 7) : mX1_raise (lN n) (nI k) = some (lN (min 167961600000000 (n * 60 ^ k))) :=
  q_raise_loop _ k hk k 0 kN n (by omega) (by have : kN = 5000 := rfl; omega) (by omega)
/-- the road behind the moving, of both -/
theorem q_putted {x y k : Nat} (hx : 1 ≤ x) (hx2 : x < 167961600000000) (hy : 1 ≤ y) (hy2 : y < 167961600000000) (hk : k ≤ 7) :
    ∃ r, (if (167961600000000 : Int64) ≤ lN (x + min 167961600000000 (y * 60 ^ k)) then some (-1000000000000000004 : Int64) else Option.bind (mX1_strip (lN (x + min 167961600000000 (y * 60 ^ k)))) (fun u8 => some u8)) = some r ∧
      (if ((167961600000000 : Int64) / lN (60 ^ k)) < lN y then some (-1000000000000000004 : Int64) else if (lN y * lN (60 ^ k) + lN x) < (167961600000000 : Int64) then Option.bind (mX7_sixtyOf (lN y * lN (60 ^ k) + lN x)) (fun u11 => some u11) else some (-1000000000000000004 : Int64)) = some r := by
  have hp := p60_lt (k := k) (by omega)
  have hq := p60_pos k
  have e1 : (167961600000000 : Int64) / lN (60 ^ k) = lN (167961600000000 / 60 ^ k) := pk_lDiv (a := 167961600000000) (by decide) hq (by omega)
  have h8 : 167961600000000 / 60 ^ k ≤ 167961600000000 := Nat.div_le_self _ _
  rw [e1, lN_mul, lN_add]
  by_cases h : y * 60 ^ k < 167961600000000
  · rw [Nat.min_eq_right (by omega)]
    have h3 : y ≤ 167961600000000 / 60 ^ k := (Nat.le_div_iff_mul_le hq).mpr (by omega)
    rw [if_neg (show ¬ lN (167961600000000 / 60 ^ k) < lN y from fun q => by have := (pk_lLT (by omega) (by omega)).mp q; omega), Nat.add_comm (y * 60 ^ k) x]
    by_cases h4 : x + y * 60 ^ k < 167961600000000
    · rw [if_neg (show ¬ (167961600000000 : Int64) ≤ lN (x + y * 60 ^ k) from fun q => by have := (pk_lLE (a := 167961600000000) (by decide) (by omega)).mp q; omega), if_pos (show lN (x + y * 60 ^ k) < (167961600000000 : Int64) from (pk_lLT (b := 167961600000000) (by omega) (by decide)).mpr h4)]
      rw [q_strip (by omega), q_six (by omega) h4]
      exact ⟨_, rfl, rfl⟩
    · rw [if_pos (show (167961600000000 : Int64) ≤ lN (x + y * 60 ^ k) from (pk_lLE (a := 167961600000000) (by decide) (by omega)).mpr (by omega)), if_neg (show ¬ lN (x + y * 60 ^ k) < (167961600000000 : Int64) from fun q => h4 ((pk_lLT (b := 167961600000000) (by omega) (by decide)).mp q))]
      exact ⟨_, rfl, rfl⟩
  · rw [Nat.min_eq_left (by omega)]
    rw [if_pos (show (167961600000000 : Int64) ≤ lN (x + 167961600000000) from (pk_lLE (a := 167961600000000) (by decide) (by omega)).mpr (by omega))]
    refine ⟨_, rfl, ?_⟩
    by_cases h5 : 167961600000000 / 60 ^ k < y
    · rw [if_pos ((pk_lLT (by omega) (by omega)).mpr h5)]
    · have h6 : y * 60 ^ k ≤ 167961600000000 := (Nat.le_div_iff_mul_le hq).mp (by omega)
      rw [if_neg (fun q => h5 ((pk_lLT (by omega) (by omega)).mp q)), if_neg (show ¬ lN (y * 60 ^ k + x) < (167961600000000 : Int64) from fun q => by have := (pk_lLT (b := 167961600000000) (by omega) (by decide)).mp q; omega)]
theorem i32_of {x : Int32} {n : Nat} (h : x.toInt = n) (hn : n < 2 ^ 31) : x = nI n := by
  apply Int32.toInt_inj.mp
  rw [nI_toInt hn, h]
theorem i32_neg {x : Int32} {n : Nat} (h : x.toInt = -(n : Int)) (hn : n < 2 ^ 31) : -x = nI n := by
  apply Int32.toInt_inj.mp
  rw [nI_toInt hn, Int32.toInt_neg, h, Int.neg_neg]
  exact Int.bmod_eq_of_le (by omega) (by omega)
/-- put -/
theorem op_put (p q : Int64) (k : Int32) : ∃ r, mX6_put p q k = some r ∧ mX7_put p q k = some r := by
  rcases q_dom p with ⟨h1, h2⟩ | ⟨x, hx, hx2, rfl, h1, h2⟩
  · refine ⟨-1000000000000000002, ?_, ?_⟩
    · rw [mX6_put, h1]; rfl
    · rw [mX7_put, h2]; rfl
  rcases q_dom q with ⟨h3, h4⟩ | ⟨y, hy, hy2, rfl, h3, h4⟩
  · refine ⟨-1000000000000000002, ?_, ?_⟩
    · rw [mX6_put, h1, Option.bind_some, if_neg h10, h3]; rfl
    · rw [mX7_put, h2, Option.bind_some, if_neg h10, h4]; rfl
  rw [mX6_put, h1, Option.bind_some, if_neg h10, h3, Option.bind_some, if_neg h10]
  rw [mX7_put, h2, Option.bind_some, if_neg h10, h4, Option.bind_some, if_neg h10, q_in, Option.bind_some]
  have em7 : (-7 : Int32).toInt = -7 := by decide
  have e7 : (7 : Int32).toInt = 7 := by decide
  have em7L : (-7 : Int64).toInt = -7 := by decide
  have e7L : (7 : Int64).toInt = 7 := by decide
  have e0 : (0 : Int32).toInt = 0 := by decide
  have hkL := Int32.toInt_toInt64 k
  by_cases ha : k < -7
  · rw [if_pos ha]
    have : ¬ ((-7 : Int64) ≤ k.toInt64 ∧ k.toInt64 ≤ 7) := by
      rw [Int32.lt_iff_toInt_lt] at ha
      rw [Int64.le_iff_toInt_le, Int64.le_iff_toInt_le]
      omega
    rw [if_neg this]
    exact ⟨_, rfl, rfl⟩
  rw [if_neg ha]
  by_cases hb : ¬ k ≤ 7
  · rw [if_neg hb]
    have : ¬ ((-7 : Int64) ≤ k.toInt64 ∧ k.toInt64 ≤ 7) := by
      rw [Int32.le_iff_toInt_le] at hb
      rw [Int64.le_iff_toInt_le, Int64.le_iff_toInt_le]
      omega
    rw [if_neg this]
    exact ⟨_, rfl, rfl⟩
  have hb : k ≤ 7 := Decidable.of_not_not hb
  rw [if_pos hb]
  have hin : ((-7 : Int64) ≤ k.toInt64 ∧ k.toInt64 ≤ 7) := by
    rw [Int32.lt_iff_toInt_lt] at ha
    rw [Int32.le_iff_toInt_le] at hb
    rw [Int64.le_iff_toInt_le, Int64.le_iff_toInt_le]
    omega
  rw [if_pos hin, if_neg h10]
  simp only [md_jn]
  rw [Int32.lt_iff_toInt_lt] at ha
  rw [Int32.le_iff_toInt_le] at hb
  by_cases hc : k < 0
  · have hc' := hc
    rw [Int32.lt_iff_toInt_lt] at hc'
    have hng : -k = nI (-k.toInt).toNat := i32_neg (by omega) (by omega)
    have hn7 : (-k.toInt).toNat ≤ 7 := by omega
    generalize (-k.toInt).toNat = n at hng hn7
    rw [if_pos hc, if_pos hc, if_pos hc, if_neg (show ¬ (0 : Int32) ≤ k from by rw [Int32.le_iff_toInt_le]; omega), hng, q_raise hx2 hn7, q_power (by omega), Option.bind_some, Option.bind_some]
    have hp := p60_lt (k := n) (by omega)
    rw [if_neg (show ¬ lN (60 ^ n) = (0 : Int64) from fun q => by have := (pk_lEQ (b := 0) (by omega) (by decide)).mp q; have := p60_pos n; omega)]
    rw [lN_add, Nat.add_comm]
    exact q_putted hy hy2 hx hx2 hn7
  · have hc' := hc
    rw [Int32.lt_iff_toInt_lt] at hc'
    have hng : k = nI k.toInt.toNat := i32_of (by omega) (by omega)
    have hn7 : k.toInt.toNat ≤ 7 := by omega
    generalize k.toInt.toNat = n at hng hn7
    rw [if_neg hc, if_neg hc, if_neg hc, if_pos (show (0 : Int32) ≤ k from by rw [Int32.le_iff_toInt_le]; omega), hng, q_raise hy2 hn7, q_power (by omega), Option.bind_some, Option.bind_some]
    have hp := p60_lt (k := n) (by omega)
    rw [if_neg (show ¬ lN (60 ^ n) = (0 : Int64) from fun q => by have := (pk_lEQ (b := 0) (by omega) (by decide)).mp q; have := p60_pos n; omega)]
    rw [lN_add]
    exact q_putted hx hx2 hy hy2 hn7
/-! roots -/
def isRt (v r : Nat) : Prop := r * r ≤ v ∧ v < (r + 1) * (r + 1)
theorem isRt_one {v r s : Nat} (h : isRt v r) (h2 : isRt v s) : r = s := by
  rcases Nat.lt_trichotomy r s with q | q | q
  · have e : (r + 1) * (r + 1) ≤ s * s := Nat.mul_le_mul q q
    exact absurd h.2 (by have := h2.1; omega)
  · exact q
  · have e : (s + 1) * (s + 1) ≤ r * r := Nat.mul_le_mul q q
    exact absurd h2.2 (by have := h.1; omega)
theorem q_fr_loop (v : Nat) (hv : v < 2 ^ 62) (kE : Int64 → Option Int64) : ∀ (j i f lo hi : Nat), i + j = 31 → j < f → lo < hi → hi ≤ lo + 2 ^ j → hi ≤ 777600000 → lo * lo ≤ v → v < hi * hi → ∃ r, isRt v r ∧ r < hi ∧ mlX1_floorRoot_10 (lN v) kE f (lN lo) (lN hi) (nI i) = kE (lN r) := by
  intro j
  induction j with
  | zero =>
    intro i f lo hi hi_ hf h1 h2 h3 h4 h5
    obtain ⟨f, rfl⟩ : ∃ g, f = g + 1 := ⟨f - 1, by omega⟩
    rw [mlX1_floorRoot_10, if_pos (show (31 : Int32) ≤ nI i from (nI_leI (a := 31) (by decide) (by omega)).mpr (by omega))]
    have : hi = lo + 1 := by omega
    subst this
    exact ⟨lo, ⟨h4, h5⟩, by omega, rfl⟩
  | succ j ih =>
    intro i f lo hi hi_ hf h1 h2 h3 h4 h5
    obtain ⟨f, rfl⟩ : ∃ g, f = g + 1 := ⟨f - 1, by omega⟩
    rw [mlX1_floorRoot_10, if_neg (show ¬ (31 : Int32) ≤ nI i from fun q => by have := (nI_leI (a := 31) (by decide) (by omega)).mp q; omega)]
    rw [lN_sub (by omega), lN_add]
    by_cases hw : hi - lo ≤ 1
    · rw [if_pos (show lN (hi - lo) ≤ (1 : Int64) from (pk_lLE (b := 1) (by omega) (by decide)).mpr hw)]
      have : hi = lo + 1 := by omega
      subst this
      exact ⟨lo, ⟨h4, h5⟩, by omega, rfl⟩
    · rw [if_neg (show ¬ lN (hi - lo) ≤ (1 : Int64) from fun q => hw ((pk_lLE (b := 1) (by omega) (by decide)).mp q))]
      have e1 : lN (lo + hi) / (2 : Int64) = lN ((lo + hi) / 2) := pk_lDiv (b := 2) (by omega) (by decide) (by decide)
      have e3 : nI i + (1 : Int32) = nI (i + 1) := nI_1 i
      simp only [md_let, md_jn, e1, e3, lN_mul]
      have hm1 : lo < (lo + hi) / 2 := by omega
      have hm2 : (lo + hi) / 2 < hi := by omega
      have hj : 2 ^ (j + 1) = 2 * 2 ^ j := by rw [Nat.pow_succ, Nat.mul_comm]
      have hm3 : (lo + hi) / 2 ≤ lo + 2 ^ j := by omega
      have hm4 : hi ≤ (lo + hi) / 2 + 2 ^ j := by omega
      generalize (lo + hi) / 2 = md at hm1 hm2 hm3 hm4
      have hmm : md * md < 2 ^ 62 := Nat.lt_of_le_of_lt (Nat.mul_le_mul (show md ≤ 777600000 by omega) (show md ≤ 777600000 by omega)) (by decide)
      by_cases hq : v < md * md
      · rw [if_pos ((pk_lLT (by omega) (by omega)).mpr hq)]
        obtain ⟨r, a, b, c⟩ := ih (i + 1) f lo md (by omega) (by omega) hm1 hm3 (by omega) h4 hq
        exact ⟨r, a, by omega, c⟩
      · rw [if_neg (fun z => hq ((pk_lLT (by omega) (by omega)).mp z))]
        exact ih (i + 1) f md hi (by omega) (by omega) hm2 hm4 h3 (by omega) h5
theorem q_fr {v : Nat} (hv : v < 604661760000000000) : ∃ r, isRt v r ∧ r < 777600000 ∧ mX1_floorRoot (lN v) = some (lN r) :=
  q_fr_loop v (by omega) (fun y => some y) 31 0 kN 0 777600000 rfl (by decide) (by decide) (by decide) (by decide) (by omega) (by omega)
theorem q_wh_loop (v : Nat) (hv : v < 2 ^ 62 - 1) (kE : Int64 → Option Int64) : ∀ (j f lo hi : Nat), j < f → lo < hi → hi ≤ lo + 2 ^ j → hi ≤ 2000000000 → lo * lo ≤ v → v < hi * hi → ∃ r, isRt v r ∧ mlX7_whole_7 (lN v) kE f (lN lo) (lN hi) = kE (lN r) := by
  intro j
  induction j with
  | zero =>
    intro f lo hi hf h1 h2 h3 h4 h5
    obtain ⟨f, rfl⟩ : ∃ g, f = g + 1 := ⟨f - 1, by omega⟩
    have : hi = lo + 1 := by omega
    subst this
    rw [mlX7_whole_7, lN_sub (by omega), if_pos (show lN (lo + 1 - lo) ≤ (1 : Int64) from (pk_lLE (b := 1) (by omega) (by decide)).mpr (by omega))]
    exact ⟨lo, ⟨h4, h5⟩, rfl⟩
  | succ j ih =>
    intro f lo hi hf h1 h2 h3 h4 h5
    obtain ⟨f, rfl⟩ : ∃ g, f = g + 1 := ⟨f - 1, by omega⟩
    rw [mlX7_whole_7, lN_sub (by omega), lN_add]
    by_cases hw : hi - lo ≤ 1
    · rw [if_pos (show lN (hi - lo) ≤ (1 : Int64) from (pk_lLE (b := 1) (by omega) (by decide)).mpr hw)]
      have : hi = lo + 1 := by omega
      subst this
      exact ⟨lo, ⟨h4, h5⟩, rfl⟩
    · rw [if_neg (show ¬ lN (hi - lo) ≤ (1 : Int64) from fun q => hw ((pk_lLE (b := 1) (by omega) (by decide)).mp q))]
      have e1 : lN (lo + hi) / (2 : Int64) = lN ((lo + hi) / 2) := pk_lDiv (b := 2) (by omega) (by decide) (by decide)
      simp only [md_let, md_jn, e1, lN_mul]
      have hm1 : lo < (lo + hi) / 2 := by omega
      have hm2 : (lo + hi) / 2 < hi := by omega
      have hj : 2 ^ (j + 1) = 2 * 2 ^ j := by rw [Nat.pow_succ, Nat.mul_comm]
      have hm3 : (lo + hi) / 2 ≤ lo + 2 ^ j := by omega
      have hm4 : hi ≤ (lo + hi) / 2 + 2 ^ j := by omega
      generalize (lo + hi) / 2 = md at hm1 hm2 hm3 hm4
      have hmm : md * md < 2 ^ 62 := Nat.lt_of_le_of_lt (Nat.mul_le_mul (show md ≤ 2000000000 by omega) (show md ≤ 2000000000 by omega)) (by decide)
      by_cases hq : v < md * md
      · rw [if_pos ((pk_lLT (by omega) (by omega)).mpr hq)]
        exact ih f lo md (by omega) hm1 hm3 (by omega) h4 hq
      · rw [if_neg (fun z => hq ((pk_lLT (by omega) (by omega)).mp z))]
        exact ih f md hi (by omega) hm2 hm4 h3 (by omega) h5
theorem q_wh {v : Nat} (hv : v < 604661760000000000) : ∃ r, isRt v r ∧ mX7_whole (lN v) = some (lN r) :=
  q_wh_loop v (by omega) (fun y => some y) 31 kN 0 2000000000 (by decide) (by decide) (by decide) (by decide) (by omega) (by omega)
theorem q_rt {v : Nat} (hv : v < 604661760000000000) : ∃ r, isRt v r ∧ r < 777600000 ∧ mX1_floorRoot (lN v) = some (lN r) ∧ mX7_whole (lN v) = some (lN r) := by
  obtain ⟨r, h1, h2, h3⟩ := q_fr hv
  obtain ⟨t, h4, h5⟩ := q_wh hv
  obtain rfl := isRt_one h1 h4
  exact ⟨r, h1, h2, h3, h5⟩
