theorem n33 : (nI 3 = (3 : Int32)) = True := eq_true rfl
theorem n31 : ¬ nI 3 = (1 : Int32) := fun q => absurd ((nI_eq (a := 3) (b := 1) (by decide) (by decide)).mp q) (by decide)
theorem n30 : ¬ nI 3 = (0 : Int32) := fun q => absurd ((nI_eq (a := 3) (b := 0) (by decide) (by decide)).mp q) (by decide)
theorem n35 : ¬ nI 3 = (5 : Int32) := fun q => absurd ((nI_eq (a := 3) (b := 5) (by decide) (by decide)).mp q) (by decide)
theorem nz0 : ¬ (0 : Int64) < 0 := by decide
theorem q_onlyN (p : Int32) : mX6_onlyAnswer (-1) p = some (-1000000000000000005) := by rw [mX6_onlyAnswer, if_neg (by decide)]
theorem q_only0 (p : Int32) : mX6_onlyAnswer 0 p = some (-1000000000000000005) := by rw [mX6_onlyAnswer, if_neg (by decide)]
theorem q_wr0 {v : Nat} (hv : v < 604661760000000000) : ∃ r, isRt v r ∧ r < 777600000 ∧ mX7_whole (lN v) = some (lN r) ∧ ((r * r = v ∧ lN r * lN r = lN v ∧ mX6_wholeRoot (lN v) = some (lN r)) ∨ (r * r ≠ v ∧ ¬ lN r * lN r = lN v ∧ mX6_wholeRoot (lN v) = some (-1))) := by
  obtain ⟨r, h1, h2, h3, h4⟩ := q_rt hv
  have hrr : r * r < 604661760000000000 := Nat.lt_of_le_of_lt h1.1 hv
  refine ⟨r, h1, h2, h4, ?_⟩
  rw [mX6_wholeRoot, if_pos (show (0 : Int64) ≤ lN v from (pk_lLE (a := 0) (by decide) (by omega)).mpr (by omega)), h3, Option.bind_some, lN_mul]
  by_cases h : r * r = v
  · left
    rw [h, if_pos rfl]
    exact ⟨rfl, rfl, rfl⟩
  · right
    have hq : ¬ lN (r * r) = lN v := fun q => h ((pk_lEQ (by omega) (by omega)).mp q)
    rw [if_neg hq]
    exact ⟨h, hq, rfl⟩
theorem q_share {x y : Nat} (hx : 1 ≤ x) (hx2 : x ≤ 1000000) (hy : 1 ≤ y) (hy2 : y ≤ 1000000) : ∃ n, n < 167961600000000 ∧ mX6_share (lN x) (lN y) = some (lN n) ∧ ∀ (G : Int64 → Option Int64), (Option.bind (mX7_isEven (lN y)) (fun u28 => (md_jn (fun (z0_90 : Int64) => (Option.bind (mX7_sixtyOf (lN x)) (fun u29 => (md_jn (fun (z0_130 : Int64) => G z0_130) (fun kJ130 => (md_jn (fun (u_118 : Unit) => (kJ130 (0 : Int64))) (fun kJ118 => (if z0_90 < (0 : Int64) then (kJ118 ()) else (if u29 = 0 then none else (if z0_90 ≤ ((167961599999999 : Int64) / u29) then (Option.bind (mX7_sixtyOf (u29 * z0_90)) (fun u33 => (kJ130 u33))) else (kJ118 ()))))))))))) (fun kJ90 => (if u28 = 0 then (kJ90 (-1 : Int64)) else (Option.bind (mX7_turnedOf (lN y)) (fun u35 => (kJ90 u35)))))))) = G (lN n) := by
  have hs := sx_le x
  have hs1 := sx_pos hx
  simp only [md_jn]
  rw [mX6_share]
  rcases q_evX hy (by omega) with ⟨-, h3, h4⟩ | ⟨-, h3, h4⟩
  · rw [h3, h4, Option.bind_some, if_neg h10, q_tover (by omega), Option.bind_some, q_strip (by omega), Option.bind_some]
    simp only [Option.bind_some, if_neg h10]
    rw [q_tof hy (by omega), q_six hx (by omega)]
    simp only [Option.bind_some]
    have hne : ¬ lN (sx x) = (0 : Int64) := fun q => by have := (pk_lEQ (b := 0) (by omega) (by decide)).mp q; omega
    have hT1 : 1 ≤ tV y := by rw [tV]; exact Nat.mul_pos (Nat.mul_pos (Nat.pow_pos (by decide)) (Nat.pow_pos (by decide))) (Nat.pow_pos (by decide))
    by_cases hT : tV y < 167961600000000
    · have ed : (167961599999999 : Int64) / lN (sx x) = lN (167961599999999 / sx x) := pk_lDiv (a := 167961599999999) (by decide) (by omega) (by omega)
      have hdl : 167961599999999 / sx x ≤ 167961599999999 := Nat.div_le_self _ _
      have hnl : ¬ lN (tV y) < (0 : Int64) := fun q => by have := (pk_lLT (b := 0) (by omega) (by decide)).mp q; omega
      rw [uu_lt hT, Nat.min_eq_right (by omega), if_neg (show ¬ (167961600000000 : Int64) ≤ lN (tV y) from fun q => by have := (pk_lLE (a := 167961600000000) (by decide) (by omega)).mp q; omega), if_neg (show ¬ lN (sx x) < (1 : Int64) from fun q => by have := (pk_lLT (b := 1) (by omega) (by decide)).mp q; omega), if_neg hne, ed, lN_mul, lN_mul, Nat.mul_comm (sx x)]
      by_cases hle : tV y ≤ 167961599999999 / sx x
      · have hm := (Nat.le_div_iff_mul_le (by omega)).mp hle
        have hm1 : 1 ≤ tV y * sx x := Nat.mul_pos hT1 hs1
        have hsl := sx_le (tV y * sx x)
        have hl2 : lN (tV y) ≤ lN (167961599999999 / sx x) := (pk_lLE (by omega) (by omega)).mpr hle
        refine ⟨sx (tV y * sx x), by omega, ?_, fun G => ?_⟩
        · rw [if_pos hl2, q_strip (by omega), Option.bind_some]
        · rw [if_neg hnl, if_neg hne, if_pos hl2, q_six hm1 (by omega), Option.bind_some]
      · have hl2 : ¬ lN (tV y) ≤ lN (167961599999999 / sx x) := fun q => hle ((pk_lLE (by omega) (by omega)).mp q)
        refine ⟨0, by decide, ?_, fun G => ?_⟩
        · rw [if_neg hl2]; rfl
        · rw [if_neg hnl, if_neg hne, if_neg hl2]; rfl
    · rw [uu_ge hT, Nat.min_eq_left (by omega)]
      refine ⟨0, by decide, ?_, fun G => ?_⟩
      · rw [if_pos (show (167961600000000 : Int64) ≤ lN 167961600000000 by decide)]; rfl
      · rw [if_pos (show (-1 : Int64) < 0 by decide)]; rfl
  · rw [h3, h4, Option.bind_some, q_six hx (by omega)]
    refine ⟨0, by decide, ?_, fun G => ?_⟩
    · rw [if_pos (show (0 : Int32) = 0 from rfl)]; rfl
    · rw [Option.bind_some, if_pos (show (0 : Int32) = 0 from rfl), Option.bind_some, if_pos (show (-1 : Int64) < 0 by decide)]; rfl
theorem q_sideN (t : Int64) (p : Int32) : mX6_sideOf (-1) t p = some (-1000000000000000005) := by rw [mX6_sideOf, if_pos (by decide)]
/-- the sides: a together, b apart -/
theorem q_side {a b : Nat} (h : b < a) (ha : a < 777600000) (p : Int32) : mX6_sideOf (lN b) (lN a) p = if (a - b) % 2 = 0 then (if p = 0 then some (lN ((a + b) / 2)) else some (lN ((a - b) / 2))) else some (-1000000000000000005) := by
  rw [mX6_sideOf, if_neg (show ¬ lN b < (0 : Int64) from fun q => by have := (pk_lLT (b := 0) (by omega) (by decide)).mp q; omega), if_neg (fun q => by have := (pk_lLE (by omega) (by omega)).mp q; omega), lN_sub (by omega), lN_add]
  have e1 : lN (a + b) / (2 : Int64) = lN ((a + b) / 2) := pk_lDiv (b := 2) (by omega) (by decide) (by decide)
  have e2 : lN (a - b) / (2 : Int64) = lN ((a - b) / 2) := pk_lDiv (b := 2) (by omega) (by decide) (by decide)
  by_cases hq : (a - b) % 2 = 0
  · rw [if_pos (show lN (a - b) - lN (a - b) / 2 * 2 = (0 : Int64) from (q_rem (d := 2) (by omega) (by decide) (by decide)).mpr hq), if_pos hq, e1, e2]
  · rw [if_neg (show ¬ lN (a - b) - lN (a - b) / 2 * 2 = (0 : Int64) from fun z => hq ((q_rem (d := 2) (by omega) (by decide) (by decide)).mp z)), if_neg hq]
theorem q_sq_lt {r x : Nat} (h : r * r < x * x) : r < x := by
  rcases Nat.lt_or_ge r x with q | q
  · exact q
  · exact absurd (Nat.mul_le_mul q q) (by omega)
theorem ite_ex {c : Prop} [Decidable c] {a b : Int64} : ∃ r, (if c then some a else some b) = some r := by
  by_cases h : c
  · exact ⟨a, if_pos h⟩
  · exact ⟨b, if_neg h⟩
theorem same_ex {o o2 : Option Int64} (h : o = o2) (h2 : ∃ r, o2 = some r) : ∃ r, o = some r ∧ o2 = some r := by
  obtain ⟨r, hr⟩ := h2
  exact ⟨r, h.trans hr, hr⟩
/-- problem -/
theorem op_problem (k x y p : Int32) : ∃ r, mX6_problem k x y p = some r ∧ mX7_problem k x y p = some r := by
  rw [mX6_problem, mX7_problem, show (5 : Int64) = lN 5 from rfl]
  rcases q_inI k (n := 5) (by decide) with ⟨hz, hc, -⟩ | ⟨j, hj, rfl, hz⟩
  · rw [hz, Option.bind_some, if_pos (show (0 : Int32) = 0 from rfl)]
    refine ⟨-1000000000000000002, ?_, rfl⟩
    by_cases h0 : k < 0
    · rw [if_pos h0]
    · rw [if_neg h0, if_pos]
      have h4 := hc.resolve_left h0
      rw [Int32.le_iff_toInt_le] at h4
      rw [Int32.lt_iff_toInt_lt]
      have e5 : (5 : Int32).toInt = 5 := by decide
      have e6 : (nI (5 + 1)).toInt = 6 := by decide
      omega
  rw [hz, Option.bind_some, if_neg h10, if_neg (nI_pos (by omega)), if_neg (show ¬ (5 : Int32) < nI j from ilt_nlt ((nI_leI (b := 5) (by omega) (by decide)).mpr hj))]
  rcases q_isP x with ⟨a1, a2⟩ | ⟨x, hx, hx2, rfl, a1, a2⟩
  · rw [a1, a2]; exact ⟨_, rfl, rfl⟩
  rw [a1, a2, Option.bind_some, Option.bind_some, if_neg h10, if_neg h10]
  rcases q_isP y with ⟨b1, b2⟩ | ⟨y, hy, hy2, rfl, b1, b2⟩
  · rw [b1, b2]; exact ⟨_, rfl, rfl⟩
  rw [b1, b2, Option.bind_some, Option.bind_some, if_neg h10, if_neg h10]
  rcases q_inI p (n := 1) (by decide) with ⟨hz, hc, -⟩ | ⟨b, hb, hpb, hz⟩
  · rw [show mX7_in (Int32.toInt64 p) 0 1 = some 0 from hz, Option.bind_some, if_pos (show (0 : Int32) = 0 from rfl)]
    refine ⟨-1000000000000000002, ?_, rfl⟩
    by_cases h0 : p < 0
    · rw [if_pos h0]
    · rw [if_neg h0, if_neg]
      intro q
      have h4 := hc.resolve_left h0
      rw [Int32.le_iff_toInt_le] at h4 q
      have e5 : (1 : Int32).toInt = 1 := by decide
      have e6 : (nI (1 + 1)).toInt = 2 := by decide
      omega
  rw [show mX7_in (Int32.toInt64 p) 0 1 = some 1 from hz, Option.bind_some, if_neg h10, if_neg (show ¬ p < 0 from by rw [hpb]; exact nI_pos (by omega)), if_pos (show p ≤ (1 : Int32) from by rw [hpb]; exact (nI_leI (b := 1) (by omega) (by decide)).mpr hb)]
  have ex : (nI x).toInt64 = lN x := nI_l (by omega)
  have ey : (nI y).toInt64 = lN y := nI_l (by omega)
  rw [ex, ey]
  have hxy : x * y ≤ 1000000 * 1000000 := Nat.mul_le_mul hx2 hy2
  have hxy1 : 1 ≤ x * y := Nat.mul_pos hx hy
  have hxx : x * x ≤ 1000000 * 1000000 := Nat.mul_le_mul hx2 hx2
  have fin : ∀ n : Nat, n < 2 ^ 62 → mX6_onlyAnswer (lN n) p = (if (0 : Int64) < lN n then (if p = 0 then (some (lN n)) else (some (0 : Int64))) else (some (-1000000000000000005 : Int64))) := fun n hn => rfl
  simp only [md_jn, md_let]
  rcases (show j = 0 ∨ j = 1 ∨ j = 2 ∨ j = 3 ∨ j = 4 ∨ j = 5 by omega) with rfl | rfl | rfl | rfl | rfl | rfl
  · rw [if_neg (show ¬ nI 0 = (1 : Int32) by decide), if_neg (show ¬ nI 0 = (2 : Int32) by decide), if_neg (show ¬ nI 0 = (3 : Int32) by decide), if_neg (show ¬ nI 0 = (4 : Int32) by decide), bind_id, lN_mul]
    rw [if_pos (show nI 0 = (0 : Int32) from rfl), fin _ (by omega), if_pos ((q_lpos (by omega)).mpr (by omega))]
    exact same_ex rfl ite_ex
  · obtain ⟨n, hn, e1, e2⟩ := q_share hx hx2 hy hy2
    rw [if_pos (show nI 1 = (1 : Int32) from rfl), e1, Option.bind_some, bind_id]
    simp only [md_jn] at e2
    rw [if_neg (show ¬ nI 1 = (0 : Int32) by decide), if_neg (show ¬ nI 1 = (5 : Int32) by decide), if_pos (show nI 1 = (1 : Int32) from rfl), e2 (fun z => if (0 : Int64) < z then (if p = 0 then (some z) else (some (0 : Int64))) else (some (-1000000000000000005 : Int64))), fin _ (by omega)]
    refine same_ex rfl ?_
    by_cases h : (0 : Int64) < lN n
    · rw [if_pos h]; exact ite_ex
    · rw [if_neg h]; exact ⟨_, rfl⟩
  · obtain ⟨r, hr1, hr2, hr3, hr4⟩ := q_wr0 (v := x) (by omega)
    rw [if_neg (show ¬ nI 2 = (1 : Int32) by decide), if_pos (show nI 2 = (2 : Int32) from rfl)]
    rw [if_neg (show ¬ nI 2 = (0 : Int32) by decide), if_neg (show ¬ nI 2 = (5 : Int32) by decide), if_neg (show ¬ nI 2 = (1 : Int32) by decide), if_pos (show nI 2 = (2 : Int32) from rfl), hr3, Option.bind_some]
    rcases hr4 with ⟨g1, g2, g3⟩ | ⟨g1, g2, g3⟩
    · have hr0 : 0 < r := by
        rcases Nat.eq_zero_or_pos r with q | q
        · rw [q] at g1; omega
        · exact q
      rw [g3, Option.bind_some, bind_id, if_pos g2, fin _ (by omega), if_pos ((q_lpos (by omega)).mpr hr0)]
      exact same_ex rfl ite_ex
    · rw [g3, Option.bind_some, bind_id, if_neg g2, q_onlyN, if_neg nz0]
      exact ⟨_, rfl, rfl⟩
  · rw [if_neg n31, if_neg n32, if_pos (show nI 3 = (3 : Int32) from rfl), lN_mul, show (4 : Int64) = lN 4 from rfl, lN_mul]
    rw [if_neg n30, if_neg n35, if_neg n31, if_neg n32]
    simp only [n33, if_true]
    by_cases hneg : x * x < 4 * y
    · have hn := lN_neg hneg (by omega)
      have hn2 : ¬ (0 : Int64) ≤ lN (x * x) - lN (4 * y) := by
        rw [Int64.lt_iff_toInt_lt] at hn
        rw [Int64.le_iff_toInt_le]
        omega
      rw [mX6_wholeRoot, if_neg hn2, Option.bind_some, q_sideN, if_neg hn2, if_pos hn, if_neg nz0, Option.bind_some]
      exact ⟨_, rfl, rfl⟩
    · rw [lN_sub (by omega)]
      obtain ⟨r, hr1, hr2, hr3, hr4⟩ := q_wr0 (v := x * x - 4 * y) (by omega)
      rw [if_pos (show (0 : Int64) ≤ lN (x * x - 4 * y) from (pk_lLE (a := 0) (by decide) (by omega)).mpr (by omega)), hr3, Option.bind_some, if_neg (show ¬ lN (x * x - 4 * y) < (0 : Int64) from fun q => by have := (pk_lLT (b := 0) (by omega) (by decide)).mp q; omega)]
      rcases hr4 with ⟨g1, g2, g3⟩ | ⟨g1, g2, g3⟩
      · have hrx : r < x := q_sq_lt (by omega)
        rw [g3, Option.bind_some, bind_id, if_pos g2, q_side hrx (by omega), lN_sub (by omega), if_neg (show ¬ lN (x - r) ≤ (0 : Int64) from fun q => by have := (pk_lLE (b := 0) (by omega) (by decide)).mp q; omega)]
        by_cases hq : (x - r) % 2 = 0
        · have e2 : lN (x - r) / (2 : Int64) = lN ((x - r) / 2) := pk_lDiv (b := 2) (by omega) (by decide) (by decide)
          rw [if_pos (show lN (x - r) - lN (x - r) / 2 * 2 = (0 : Int64) from (q_rem (d := 2) (by omega) (by decide) (by decide)).mpr hq), if_pos hq, e2, lN_sub (by omega), (q_half (by omega) hq).1, if_pos ((q_lpos (by omega)).mpr (by omega))]
          exact same_ex rfl ite_ex
        · rw [if_neg (show ¬ lN (x - r) - lN (x - r) / 2 * 2 = (0 : Int64) from fun z => hq ((q_rem (d := 2) (by omega) (by decide) (by decide)).mp z)), if_neg hq, if_neg nz0]
          exact ⟨_, rfl, rfl⟩
      · rw [g3, Option.bind_some, q_sideN, if_neg g2, if_neg nz0, Option.bind_some]
        exact ⟨_, rfl, rfl⟩
  · rw [if_neg (show ¬ nI 4 = (1 : Int32) by decide), if_neg (show ¬ nI 4 = (2 : Int32) by decide), if_neg (show ¬ nI 4 = (3 : Int32) by decide), if_pos (show nI 4 = (4 : Int32) from rfl), lN_mul, show (4 : Int64) = lN 4 from rfl, lN_mul]
    rw [if_neg (show ¬ nI 4 = (0 : Int32) by decide), if_neg (show ¬ nI 4 = (5 : Int32) by decide), if_neg (show ¬ nI 4 = (1 : Int32) by decide), if_neg (show ¬ nI 4 = (2 : Int32) by decide)]
    simp only [if_neg (show ¬ nI 4 = (3 : Int32) by decide)]
    rw [lN_add]
    obtain ⟨r, hr1, hr2, hr3, hr4⟩ := q_wr0 (v := x * x + 4 * y) (by omega)
    rw [if_pos (show (0 : Int64) ≤ lN (x * x + 4 * y) from (pk_lLE (a := 0) (by decide) (by omega)).mpr (by omega)), hr3, Option.bind_some, if_neg (show ¬ lN (x * x + 4 * y) < (0 : Int64) from fun q => by have := (pk_lLT (b := 0) (by omega) (by decide)).mp q; omega)]
    rcases hr4 with ⟨g1, g2, g3⟩ | ⟨g1, g2, g3⟩
    · have hrx : x < r := q_sq_lt (by omega)
      rw [g3, Option.bind_some, bind_id, if_pos g2, q_side hrx hr2, lN_sub (by omega), if_neg (show ¬ lN (r - x) ≤ (0 : Int64) from fun q => by have := (pk_lLE (b := 0) (by omega) (by decide)).mp q; omega)]
      by_cases hq : (r - x) % 2 = 0
      · have e2 : lN (r - x) / (2 : Int64) = lN ((r - x) / 2) := pk_lDiv (b := 2) (by omega) (by decide) (by decide)
        rw [if_pos (show lN (r - x) - lN (r - x) / 2 * 2 = (0 : Int64) from (q_rem (d := 2) (by omega) (by decide) (by decide)).mpr hq), if_pos hq, e2, lN_add, (q_half (by omega) hq).2, if_pos ((q_lpos (by omega)).mpr (by omega))]
        exact same_ex rfl ite_ex
      · rw [if_neg (show ¬ lN (r - x) - lN (r - x) / 2 * 2 = (0 : Int64) from fun z => hq ((q_rem (d := 2) (by omega) (by decide) (by decide)).mp z)), if_neg hq, if_neg nz0]
        exact ⟨_, rfl, rfl⟩
    · rw [g3, Option.bind_some, if_neg g2, if_neg nz0, bind_id, mX6_sideOf, if_neg (show ¬ lN x < (0 : Int64) from fun q => by have := (pk_lLT (b := 0) (by omega) (by decide)).mp q; omega), if_pos]
      · exact ⟨_, rfl, rfl⟩
      · rw [Int64.le_iff_toInt_le, pk_lT (by omega)]
        have e1 : (-1 : Int64).toInt = -1 := by decide
        omega
  · rw [if_neg (show ¬ nI 5 = (1 : Int32) by decide), if_neg (show ¬ nI 5 = (2 : Int32) by decide), if_neg (show ¬ nI 5 = (3 : Int32) by decide), if_neg (show ¬ nI 5 = (4 : Int32) by decide), bind_id, lN_mul]
    rw [if_neg (show ¬ nI 5 = (0 : Int32) by decide), if_pos (show nI 5 = (5 : Int32) from rfl), fin _ (by omega), if_pos ((q_lpos (by omega)).mpr (by omega))]
    exact same_ex rfl ite_ex
