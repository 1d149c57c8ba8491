section SUMS
variable {xX xY xP mp mq mX mY : Nat → Int32} {k : Nat}
theorem q_worth (hk : k ≤ 16) {j : Nat} (hj : j < k) (h : lineRel xX xY xP mp mq mX mY j) : ∃ w, w < 2 ^ 50 ∧ mX5_worth xX xY xP (nI k) (nI j) = some (lN w) ∧ mX7_lineOf mp mq (nI j) = some (lN w) := by
  obtain ⟨a, b, q, h1, h2, h3, h4, h5, x1, m1, x2, m2, x3, m3, m4⟩ := h
  have hab : a * b ≤ 59 * 59 := Nat.mul_le_mul (by omega) (by omega)
  have hq : 60 ^ q ≤ 60 ^ 6 := Nat.pow_le_pow_right (by decide) h5
  have e6 : (60 : Nat) ^ 6 = 46656000000 := by decide
  have hw : a * b * 60 ^ q ≤ 59 * 59 * 46656000000 := Nat.mul_le_mul hab (by omega)
  have hin := nI_in (c := j) (N := 16) (by omega) (by decide)
  have el : (nI (a * b)).toInt64 = lN (a * b) := nI_l (by omega)
  refine ⟨a * b * 60 ^ q, by omega, ?_, ?_⟩
  · rw [mX5_worth, q_pr hk hj, Option.bind_some, q_pl hk hj, Option.bind_some, x1, x2, x3, pk_mul, el, q_ap (by omega), Option.bind_some]
  · rw [mX7_lineOf, if_neg hin, if_neg hin, nI_clamp (by omega), m3, m4, q_power (by omega), Option.bind_some, el, lN_mul]
theorem q_sum_loop (hk : k ≤ 16) (hs : ∀ i, i < k → lineRel xX xY xP mp mq mX mY i) {j : Nat} (hj : j < k) (kE kF : Int64 → Option Int64) : ∀ (d i f g : Nat) (acc : Int64), i + d = j + 1 → d < f → d < g → ∃ s, mlX5_sumUpTo_5 (nI j) xX xY xP (nI k) kE f acc (nI i) = kE s ∧ mlX7_sumOf_5 (nI j) mp mq kF g acc (nI i) = kF s := by
  intro d
  induction d with
  | zero =>
    intro i f g acc hi hf hg
    obtain ⟨f, rfl⟩ : ∃ z, f = z + 1 := ⟨f - 1, by omega⟩
    obtain ⟨g, rfl⟩ : ∃ z, g = z + 1 := ⟨g - 1, by omega⟩
    have hc : nI j < nI i := (nI_ltI (by omega) (by omega)).mpr (by omega)
    rw [mlX5_sumUpTo_5, mlX7_sumOf_5, if_pos hc, if_pos hc]
    exact ⟨acc, rfl, rfl⟩
  | succ d ih =>
    intro i f g acc hi hf hg
    obtain ⟨f, rfl⟩ : ∃ z, f = z + 1 := ⟨f - 1, by omega⟩
    obtain ⟨g, rfl⟩ : ∃ z, g = z + 1 := ⟨g - 1, by omega⟩
    have hc : ¬ nI j < nI i := fun q => by have := (nI_ltI (by omega) (by omega)).mp q; omega
    obtain ⟨w, -, h1, h2⟩ := q_worth hk (j := i) (by omega) (hs i (by omega))
    have e3 : nI i + (1 : Int32) = nI (i + 1) := nI_1 i
    rw [mlX5_sumUpTo_5, mlX7_sumOf_5, if_neg hc, if_neg hc, if_neg (show ¬ (16 : Int32) ≤ nI i from fun q => by have := (nI_leI (a := 16) (by decide) (by omega)).mp q; omega), h1, h2, Option.bind_some, Option.bind_some, md_letP, md_letP, md_letP, md_letP, e3]
    exact ih (i + 1) f g (acc + lN w) (by omega) (by omega) (by omega)
theorem q_sum (hk : k ≤ 16) (hs : ∀ i, i < k → lineRel xX xY xP mp mq mX mY i) {j : Nat} (hj : j < k) : ∃ s, mX5_sumUpTo xX xY xP (nI k) (nI j) = some s ∧ mX7_sumOf mp mq (nI j) = some s :=
  q_sum_loop hk hs hj (fun y => some y) (fun y => some y) (j + 1) 0 kN kN 0 (by omega) (by have : kN = 5000 := rfl; omega) (by have : kN = 5000 := rfl; omega)
end SUMS
/-- sum -/
theorem op_sum {xX xY xP mp mq mX mY : Nat → Int32} {xl mw ml : Int32} (h : workRel xX xY xP xl mw ml mp mq mX mY) (i : Int32) : ∃ r, mX6_sum xX xY xP xl i = some r ∧ mX7_sum ml mp mq i = some r := by
  obtain ⟨k, hk, rfl, rfl, -, hs⟩ := h
  rw [mX6_sum, mX7_sum]
  rcases q_line hk i with ⟨h1, h2⟩ | ⟨j, hj, rfl, h1, h2⟩
  · rw [h1, h2]; exact ⟨_, rfl, rfl⟩
  · obtain ⟨s, e1, e2⟩ := q_sum hk hs hj
    rw [h1, h2, Option.bind_some, Option.bind_some, if_neg h10, if_neg h10, e1, e2]
    exact ⟨s, rfl, rfl⟩
