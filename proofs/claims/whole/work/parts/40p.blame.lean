theorem q_bl_loop {xX xY xP mp mq mX mY : Nat → Int32} {k : Nat} (hk : k ≤ 16) (hs : ∀ i, i < k → lineRel xX xY xP mp mq mX mY i) (e : Int64) (n : Int32) (s : Int64) (kE : Int32 → Option Int32) (hkE : ∀ c, ∃ r, kE c = some r) : ∀ (d t f g : Nat) (c : Int32), t + d = 8 * k → d < f → d < g → ∃ r, mlX6_blame_37 e n s xX xY xP (nI k) kE f c (nI t) = some r ∧ mlX7_blame_28 e n s (nI k) mp mq mX mY kE g c (nI t) = some r := by
  intro d
  induction d with
  | zero =>
    intro t f g c ht hf hg
    obtain ⟨f, rfl⟩ : ∃ z, f = z + 1 := ⟨f - 1, by omega⟩
    obtain ⟨g, rfl⟩ : ∃ z, g = z + 1 := ⟨g - 1, by omega⟩
    have ea : nI k * (8 : Int32) = nI (k * 8) := pk_mul k 8
    have eb : (8 : Int32) * nI k = nI (8 * k) := pk_mul 8 k
    rw [mlX6_blame_37, mlX7_blame_28, mX5_lineCount, Option.bind_some, ea, eb, if_pos ((nI_leI (by omega) (by omega)).mpr (by omega)), if_pos ((nI_leI (by omega) (by omega)).mpr (by omega))]
    obtain ⟨r, hr⟩ := hkE c
    exact ⟨r, hr, hr⟩
  | succ d ih =>
    intro t f g c ht hf hg
    obtain ⟨f, rfl⟩ : ∃ z, f = z + 1 := ⟨f - 1, by omega⟩
    obtain ⟨g, rfl⟩ : ∃ z, g = z + 1 := ⟨g - 1, by omega⟩
    have ea : nI k * (8 : Int32) = nI (k * 8) := pk_mul k 8
    have eb : (8 : Int32) * nI k = nI (8 * k) := pk_mul 8 k
    have hca : ¬ nI (k * 8) ≤ nI t := fun q => by have := (nI_leI (by omega) (by omega)).mp q; omega
    have hcb : ¬ nI (8 * k) ≤ nI t := fun q => by have := (nI_leI (by omega) (by omega)).mp q; omega
    have e8 : nI t / (8 : Int32) = nI (t / 8) := pk_div (d := 8) (by omega) (by decide) (by decide)
    have er8 : nI t - nI t / (8 : Int32) * (8 : Int32) = nI (t % 8) := pk_rem (d := 8) (by omega) (by decide) (by decide)
    have e2 : nI t / (2 : Int32) = nI (t / 2) := pk_div (d := 2) (by omega) (by decide) (by decide)
    have er2 : nI t - nI t / (2 : Int32) * (2 : Int32) = nI (t % 2) := pk_rem (d := 2) (by omega) (by decide) (by decide)
    have e82 : nI (t % 8) / (2 : Int32) = nI (t % 8 / 2) := pk_div (d := 2) (by omega) (by decide) (by decide)
    have e24 : nI (t / 2) - nI (t / 2) / (4 : Int32) * (4 : Int32) = nI (t % 8 / 2) := by
      rw [show nI (t / 2) - nI (t / 2) / (4 : Int32) * (4 : Int32) = nI (t / 2 % 4) from pk_rem (d := 4) (by omega) (by decide) (by decide)]
      congr 1; omega
    have e1 : nI t + (1 : Int32) = nI (t + 1) := nI_1 t
    have hi : t / 8 < k := by omega
    obtain ⟨w, hw, g3, g4⟩ := q_worth hk hi (hs _ hi)
    rw [mlX6_blame_37, mlX7_blame_28, mX5_lineCount, Option.bind_some, ea, eb, if_neg hca, if_neg hcb, er8, er2, e82, e2, e24, e8, e1]
    simp only [md_jnP, md_letP]
    rw [g3, g4]
    rcases q_slAll hk hi (hs _ hi) (c := t % 8 / 2) (w := t % 2) (by omega) (by omega) with ⟨g1, g2⟩ | ⟨v, hv, g1, g2⟩
    · rw [g1, g2]
      simp only [Option.bind_some]
      rw [if_pos trivial, if_pos (show (-6 : Int64) < 0 by decide)]
      exact ih (t + 1) f g c (by omega) (by omega) (by omega)
    · have hne : ¬ lN v = (-1 : Int64) := fun q => by
        have : (lN v).toInt = (-1 : Int64).toInt := by rw [q]
        rw [pk_lT (by omega)] at this
        have em : (-1 : Int64).toInt = -1 := by decide
        omega
      have hnn : ¬ lN v < (0 : Int64) := fun q => by have := (pk_lLT (b := 0) (by omega) (by decide)).mp q; omega
      rw [g1, g2]
      simp only [Option.bind_some]
      rw [if_neg hne, if_neg hnn]
      by_cases he : s - lN w + lN v = e
      · by_cases hes : e = s
        · rw [if_pos hes, if_pos he, if_pos (he.trans hes)]
          exact ih (t + 1) f g c (by omega) (by omega) (by omega)
        · rw [if_neg hes, if_pos he, if_pos he, if_neg (fun q => hes (he.symm.trans q))]
          by_cases hc : c = n
          · rw [if_pos hc, if_pos hc]; exact ⟨_, rfl, rfl⟩
          · rw [if_neg hc, if_neg hc]
            exact ih (t + 1) f g (c + 1) (by omega) (by omega) (by omega)
      · rw [if_neg he, if_neg he]
        by_cases hes : e = s
        · rw [if_pos hes]
          exact ih (t + 1) f g c (by omega) (by omega) (by omega)
        · rw [if_neg hes]
          exact ih (t + 1) f g c (by omega) (by omega) (by omega)
/-- blame -/
theorem op_blame {xX xY xP mp mq mX mY : Nat → Int32} {xl mw ml : Int32} (h : workRel xX xY xP xl mw ml mp mq mX mY) (e : Int64) (n : Int32) : ∃ r, mX6_blame xX xY xP xl e n = some r ∧ mX7_blame mw ml mp mq mX mY e n = some r := by
  obtain ⟨k, hk, rfl, rfl, hw, hs⟩ := h
  rw [mX6_blame, mX7_blame, mX5_lineCount, Option.bind_some, Option.bind_some]
  by_cases h0 : k = 0
  · rw [if_pos (show nI k = 0 from by rw [h0]; rfl), if_pos (hw.mpr h0)]
    exact ⟨_, rfl, rfl⟩
  · rw [if_neg (nI_ne0 (by omega) (by omega)), if_neg (fun q => h0 (hw.mp q)), show nI k - (1 : Int32) = nI (k - 1) from pk_sub (a := k) (b := 1) (by omega)]
    obtain ⟨s, e1, e2⟩ := q_sum hk hs (j := k - 1) (by omega)
    rw [e1, e2, Option.bind_some, Option.bind_some]
    exact q_bl_loop hk hs e n s _ (fun c => by by_cases h : n = -1 <;> simp [h]) (8 * k) 0 kN kN 0 (by omega) (by have : kN = 5000 := rfl; omega) (by have : kN = 5000 := rfl; omega)
