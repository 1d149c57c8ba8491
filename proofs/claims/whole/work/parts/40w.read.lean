/-! WAYS: reading, odd -/
def kO (w : Nat) : Nat := if 3481 ≤ w then (if 3510 ≤ w then (if 3569 ≤ w then 3 else 2) else 1) else 0
def nO (w : Nat) : Nat := if 3481 ≤ w then 0 else w / 59 + 1
def fO (w : Nat) : Nat := if 3481 ≤ w then (if 3510 ≤ w then (if 3569 ≤ w then w - 3569 else w - 3510) else w - 3481) else w % 59
theorem kf0 {w : Nat} (h : w < 3481) : kO w = 0 ∧ nO w = w / 59 + 1 ∧ fO w = w % 59 := ⟨if_neg (by omega), if_neg (by omega), if_neg (by omega)⟩
theorem kf1 {w : Nat} (h : 3481 ≤ w) (h2 : w < 3510) : kO w = 1 ∧ nO w = 0 ∧ fO w = w - 3481 := by
  rw [kO, nO, fO, if_pos h, if_pos h, if_pos h, if_neg (by omega), if_neg (by omega)]
  exact ⟨rfl, rfl, rfl⟩
theorem kf2 {w : Nat} (h : 3510 ≤ w) (h2 : w < 3569) : kO w = 2 ∧ nO w = 0 ∧ fO w = w - 3510 := by
  have a : 3481 ≤ w := by omega
  have b : ¬ 3569 ≤ w := by omega
  simp only [kO, nO, fO, if_pos a, if_pos h, if_neg b, and_self]
theorem kf3 {w : Nat} (h : 3569 ≤ w) : kO w = 3 ∧ nO w = 0 ∧ fO w = w - 3569 := by
  have a : 3481 ≤ w := by omega
  have b : 3510 ≤ w := by omega
  simp only [kO, nO, fO, if_pos a, if_pos h, if_pos b, and_self]
theorem rO_0 : rO 0 = 59 := rfl
theorem rO_2 : rO 2 = 59 := rfl
theorem rO_3 : rO 3 = 40 := rfl
theorem ok_w {w : Nat} (h : w < 3609) : okT (kO w) (nO w) ∧ fO w < rO (kO w) := by
  rcases Nat.lt_or_ge w 3481 with q | q
  · obtain ⟨a, b, c⟩ := kf0 q
    rw [a, b, c, rO_0]
    exact ⟨.inl ⟨rfl, by omega, by omega⟩, by omega⟩
  · rcases Nat.lt_or_ge w 3510 with q2 | q2
    · obtain ⟨a, b, c⟩ := kf1 q q2
      rw [a, b, c, rO_1]
      exact ⟨.inr (.inl ⟨rfl, rfl⟩), by omega⟩
    · rcases Nat.lt_or_ge w 3569 with q3 | q3
      · obtain ⟨a, b, c⟩ := kf2 q2 q3
        rw [a, b, c, rO_2]
        exact ⟨.inr (.inr (.inl ⟨rfl, rfl⟩)), by omega⟩
      · obtain ⟨a, b, c⟩ := kf3 q3
        rw [a, b, c, rO_3]
        exact ⟨.inr (.inr (.inr ⟨rfl, rfl⟩)), by omega⟩
theorem wLe {a w : Nat} (ha : a < 2 ^ 31) (hw : w < 2 ^ 31) (h : a ≤ w) : nI a ≤ nI w := (nI_leI ha hw).mpr h
theorem wNl {a w : Nat} (ha : a < 2 ^ 31) (hw : w < 2 ^ 31) (h : w < a) : ¬ nI a ≤ nI w := fun q => by have := (nI_leI ha hw).mp q; omega
theorem q_way {w : Nat} (h : w < 3609) : mX7_kindOf (nI w) = some (nI (kO w)) ∧ mX7_nOf (nI w) = some (nI (nO w)) ∧ mX7_firstOf (nI w) = some (nI (fO w)) := by
  rw [mX7_kindOf, mX7_nOf, mX7_firstOf, show (3481 : Int32) = nI 3481 from rfl, show (3510 : Int32) = nI 3510 from rfl, show (3569 : Int32) = nI 3569 from rfl]
  rcases Nat.lt_or_ge w 3481 with q | q
  · obtain ⟨a, b, c⟩ := kf0 q
    rw [if_neg (wNl (by omega) (by omega) q), if_neg (wNl (by omega) (by omega) q), if_neg (wNl (by omega) (by omega) q), a, b, c]
    refine ⟨rfl, ?_, ?_⟩
    · rw [show nI w / (59 : Int32) = nI (w / 59) from pk_div (d := 59) (by omega) (by decide) (by decide), show nI (w / 59) + (1 : Int32) = nI (w / 59 + 1) from nI_1 _]
    · rw [show nI w - nI w / (59 : Int32) * (59 : Int32) = nI (w % 59) from pk_rem (d := 59) (by omega) (by decide) (by decide)]
  · rw [if_pos (wLe (by omega) (by omega) q), if_pos (wLe (by omega) (by omega) q), if_pos (wLe (by omega) (by omega) q)]
    rcases Nat.lt_or_ge w 3510 with q2 | q2
    · obtain ⟨a, b, c⟩ := kf1 q q2
      rw [if_neg (wNl (by omega) (by omega) q2), if_neg (wNl (by omega) (by omega) q2), a, b, c, pk_sub q]
      exact ⟨rfl, rfl, rfl⟩
    · rw [if_pos (wLe (by omega) (by omega) q2), if_pos (wLe (by omega) (by omega) q2)]
      rcases Nat.lt_or_ge w 3569 with q3 | q3
      · obtain ⟨a, b, c⟩ := kf2 q2 q3
        rw [if_neg (wNl (by omega) (by omega) q3), if_neg (wNl (by omega) (by omega) q3), a, b, c, pk_sub q2]
        exact ⟨rfl, rfl, rfl⟩
      · obtain ⟨a, b, c⟩ := kf3 q3
        rw [if_pos (wLe (by omega) (by omega) q3), if_pos (wLe (by omega) (by omega) q3), a, b, c, pk_sub q3]
        exact ⟨rfl, rfl, rfl⟩
def fit (r w : Nat) : Prop := fO w + r ≤ rO (kO w)
theorem q_fits {t r w : Nat} (ht : t < 4) (hr8 : r ≤ 8) {m_rows : Nat → Int32} (hm : m_rows t = nI r) (hw : w < 3609) : (fit r w ∧ mX7_fits m_rows (nI t) (nI w) = some 1) ∨ (¬ fit r w ∧ mX7_fits m_rows (nI t) (nI w) = some 0) := by
  obtain ⟨o1, o2⟩ := ok_w hw
  obtain ⟨a, b, c⟩ := q_way hw
  have h59 := rO_le (kO w)
  rw [mX7_fits, c, Option.bind_some, if_neg (nI_in ht (by decide)), nI_clamp (by omega), hm, a, Option.bind_some, (q_rows o1).2, Option.bind_some, nI_add]
  by_cases q : fit r w
  · left
    have q' := q
    rw [fit] at q'
    rw [if_neg (show ¬ nI (rO (kO w)) < nI (fO w + r) from fun z => by have := (nI_ltI (by omega) (by omega)).mp z; omega)]
    exact ⟨q, rfl⟩
  · right
    have q' := q
    rw [fit] at q'
    rw [if_pos ((nI_ltI (by omega) (by omega)).mpr (by omega))]
    exact ⟨q, rfl⟩
def wO (K N F : Nat) : Nat := if K = 0 then (N - 1) * 59 + F else if K = 1 then 3481 + F else if K = 2 then 3510 + F else 3569 + F
theorem wO_inv {K N F : Nat} (h : okT K N) (hF : F < rO K) : kO (wO K N F) = K ∧ nO (wO K N F) = N ∧ fO (wO K N F) = F ∧ wO K N F < 3609 := by
  rcases h with ⟨rfl, h1, h2⟩ | ⟨rfl, rfl⟩ | ⟨rfl, rfl⟩ | ⟨rfl, rfl⟩
  · rw [rO_0] at hF
    rw [show wO 0 N F = (N - 1) * 59 + F from rfl]
    obtain ⟨a, b, c⟩ := kf0 (w := (N - 1) * 59 + F) (by omega)
    rw [a, b, c]
    exact ⟨rfl, by omega, by omega, by omega⟩
  · rw [rO_1] at hF
    rw [show wO 1 0 F = 3481 + F from rfl]
    obtain ⟨a, b, c⟩ := kf1 (w := 3481 + F) (by omega) (by omega)
    rw [a, b, c]
    exact ⟨rfl, rfl, by omega, by omega⟩
  · rw [rO_2] at hF
    rw [show wO 2 0 F = 3510 + F from rfl]
    obtain ⟨a, b, c⟩ := kf2 (w := 3510 + F) (by omega) (by omega)
    rw [a, b, c]
    exact ⟨rfl, rfl, by omega, by omega⟩
  · rw [rO_3] at hF
    rw [show wO 3 0 F = 3569 + F from rfl]
    obtain ⟨a, b, c⟩ := kf3 (w := 3569 + F) (by omega)
    rw [a, b, c]
    exact ⟨rfl, rfl, by omega, by omega⟩
theorem wO_succ (K N F : Nat) : wO K N (F + 1) = wO K N F + 1 := by
  rw [wO, wO]
  (repeat' split) <;> omega
/-- the search: the places of the ways below w are behind it -/
def stS (r w : Nat) (kd n f : Int32) : Prop := ∃ K N F, okT K N ∧ kd = nI K ∧ n = nI N ∧ f = nI F - 1 ∧ F + r ≤ rO K + 1 ∧ w = wO K N F
theorem st_begin {r : Nat} (hr8 : r ≤ 8) : stS r 0 0 1 (-1) := ⟨0, 1, 0, .inl ⟨rfl, by decide, by decide⟩, rfl, rfl, by decide, by rw [rO_0]; omega, rfl⟩
theorem np_step (r kd n f : Int32) : mX0_nextPlace r kd n f = Option.bind (mX2_rowsOf kd) (fun u2 => if u2 < (f + 1) + r then (if kd = 0 then (if (59 : Int32) ≤ n then (if (4 : Int32) ≤ kd + 1 then some (0, kd + 1, 0, 0) else some (1, kd + 1, 0, 0)) else some (1, kd, n + 1, 0)) else (if (4 : Int32) ≤ kd + 1 then some (0, kd + 1, 0, 0) else some (1, kd + 1, 0, 0))) else some (1, kd, n, f + 1)) := by
  rw [mX0_nextPlace]
  simp only [md_jnP, md_letP]
theorem i_sac (x : Int32) : x - 1 + 1 = x := by rw [Int32.sub_eq_add_neg, Int32.add_assoc, show (-1 : Int32) + 1 = 0 from by decide, Int32.add_zero]
theorem st_at {r K N F : Nat} (h : okT K N) (hF : F + r ≤ rO K) : stS r (wO K N F + 1) (nI K) (nI N) (nI F) := ⟨K, N, F + 1, h, rfl, rfl, (nI_pred F).symm, by omega, (wO_succ K N F).symm⟩
theorem np_at {r w K N F : Nat} (hr1 : 1 ≤ r) {kd n f : Int32} {res : Option (Int32 × Int32 × Int32 × Int32)} (h : okT K N) (hF : F + r ≤ rO K) (hw : w ≤ wO K N F) (hno : ∀ x, w ≤ x → x < wO K N F → ¬ fit r x) (hres : res = some (1, nI K, nI N, nI F)) : ∃ w1, w ≤ w1 ∧ w1 < 3609 ∧ (∀ x, w ≤ x → x < w1 → ¬ fit r x) ∧ fit r w1 ∧ res = some (1, nI (kO w1), nI (nO w1), nI (fO w1)) ∧ stS r (w1 + 1) (nI (kO w1)) (nI (nO w1)) (nI (fO w1)) := by
  obtain ⟨a, b, c, d⟩ := wO_inv (K := K) (N := N) (F := F) h (by omega)
  refine ⟨wO K N F, hw, d, hno, ?_, ?_, ?_⟩
  · rw [fit, a, c]; exact hF
  · rw [a, b, c]; exact hres
  · rw [a, b, c]; exact st_at h hF
theorem q_np {r w : Nat} (hr1 : 1 ≤ r) (hr8 : r ≤ 8) {kd n f : Int32} (h : stS r w kd n f) : (∃ w1, w ≤ w1 ∧ w1 < 3609 ∧ (∀ x, w ≤ x → x < w1 → ¬ fit r x) ∧ fit r w1 ∧ mX0_nextPlace (nI r) kd n f = some (1, nI (kO w1), nI (nO w1), nI (fO w1)) ∧ stS r (w1 + 1) (nI (kO w1)) (nI (nO w1)) (nI (fO w1))) ∨ ((∀ x, w ≤ x → x < 3609 → ¬ fit r x) ∧ ∃ a b c, mX0_nextPlace (nI r) kd n f = some (0, a, b, c)) := by
  obtain ⟨K, N, F, hok, rfl, rfl, rfl, hF, rfl⟩ := h
  have h59 := rO_le K
  rw [np_step, (q_rows hok).1, Option.bind_some, i_sac, nI_add]
  by_cases hfit : F + r ≤ rO K
  · left
    rw [if_neg (show ¬ nI (rO K) < nI (F + r) from fun z => by have := (nI_ltI (by omega) (by omega)).mp z; omega)]
    exact np_at hr1 (kd := nI K) (n := nI N) (f := nI F) hok hfit (Nat.le_refl _) (fun x h1 h2 => by omega) rfl
  · rw [if_pos ((nI_ltI (by omega) (by omega)).mpr (by omega))]
    rcases hok with ⟨rfl, h1, h2⟩ | ⟨rfl, rfl⟩ | ⟨rfl, rfl⟩ | ⟨rfl, rfl⟩
    · rw [rO_0] at hF hfit
      rw [if_pos nI_0, show wO 0 N F = (N - 1) * 59 + F from rfl]
      by_cases hN : N = 59
      · subst hN
        left
        rw [if_pos (show (59 : Int32) ≤ nI 59 by decide), if_neg (show ¬ (4 : Int32) ≤ nI 0 + 1 by decide)]
        refine np_at hr1 (kd := nI 0) (n := nI 0) (f := nI 0) (K := 1) (N := 0) (F := 0) (.inr (.inl ⟨rfl, rfl⟩)) (by rw [rO_1]; omega) ?_ (fun x q1 q2 => ?_) rfl
        · rw [show wO 1 0 0 = 3481 from rfl]; omega
        · rw [show wO 1 0 0 = 3481 from rfl] at q2
          obtain ⟨a, b, c⟩ := kf0 q2
          rw [fit, a, c, rO_0]; omega
      · left
        rw [if_neg (show ¬ (59 : Int32) ≤ nI N from fun z => by have := (nI_leI (a := 59) (by decide) (by omega)).mp z; omega), show nI N + (1 : Int32) = nI (N + 1) from nI_1 N]
        refine np_at hr1 (kd := nI 0) (n := nI 0) (f := nI 0) (K := 0) (N := N + 1) (F := 0) (.inl ⟨rfl, by omega, by omega⟩) (by rw [rO_0]; omega) ?_ (fun x q1 q2 => ?_) rfl
        · rw [show wO 0 (N + 1) 0 = N * 59 from rfl]; omega
        · rw [show wO 0 (N + 1) 0 = N * 59 from rfl] at q2
          obtain ⟨a, b, c⟩ := kf0 (w := x) (by omega)
          rw [fit, a, c, rO_0]; omega
    · rw [rO_1] at hF hfit
      left
      rw [if_neg n10, if_neg (show ¬ (4 : Int32) ≤ nI 1 + 1 by decide), show wO 1 0 F = 3481 + F from rfl]
      refine np_at hr1 (kd := nI 0) (n := nI 0) (f := nI 0) (K := 2) (N := 0) (F := 0) (.inr (.inr (.inl ⟨rfl, rfl⟩))) (by rw [rO_2]; omega) ?_ (fun x q1 q2 => ?_) rfl
      · rw [show wO 2 0 0 = 3510 from rfl]; omega
      · rw [show wO 2 0 0 = 3510 from rfl] at q2
        obtain ⟨a, b, c⟩ := kf1 (w := x) (by omega) q2
        rw [fit, a, c, rO_1]; omega
    · rw [rO_2] at hF hfit
      left
      rw [if_neg n20, if_neg (show ¬ (4 : Int32) ≤ nI 2 + 1 by decide), show wO 2 0 F = 3510 + F from rfl]
      refine np_at hr1 (kd := nI 0) (n := nI 0) (f := nI 0) (K := 3) (N := 0) (F := 0) (.inr (.inr (.inr ⟨rfl, rfl⟩))) (by rw [rO_3]; omega) ?_ (fun x q1 q2 => ?_) rfl
      · rw [show wO 3 0 0 = 3569 from rfl]; omega
      · rw [show wO 3 0 0 = 3569 from rfl] at q2
        obtain ⟨a, b, c⟩ := kf2 (w := x) (by omega) q2
        rw [fit, a, c, rO_2]; omega
    · rw [rO_3] at hF hfit
      right
      rw [if_neg n30, if_pos (show (4 : Int32) ≤ nI 3 + 1 by decide), show wO 3 0 F = 3569 + F from rfl]
      refine ⟨fun x q1 q2 => ?_, _, _, _, rfl⟩
      obtain ⟨a, b, c⟩ := kf3 (w := x) (by omega)
      rw [fit, a, c, rO_3]; omega
/-- the tablet reads so at way w -/
def agW (cells : Nat → Int32) (r w : Nat) : Prop := fit r w ∧ tri0 (bad cells (kO w) (nO w) (fO w)) (3 * r)
section WAYS
variable {t r k : Nat} {cells six m_rows m_cell hr hc hs : Nat → Int32}
theorem q_reads (ht : t < 4) (hr8 : r ≤ 8) (hm : m_rows t = nI r) (hC : cellRel t r cells six m_cell) {o : Nat → Int32} (ho : overRel o) {w : Nat} (hw : w < 3609) : ∃ o', overRel o' ∧ ((agW cells r w ∧ mX7_reads m_rows m_cell o (nI t) (nI w) = some (1, o')) ∨ (¬ agW cells r w ∧ mX7_reads m_rows m_cell o (nI t) (nI w) = some (0, o'))) := by
  obtain ⟨o1, -⟩ := ok_w hw
  obtain ⟨a, b, c⟩ := q_way hw
  rw [mX7_reads]
  rcases q_fits ht hr8 hm hw with ⟨q1, q2⟩ | ⟨q1, q2⟩
  · obtain ⟨o', many, last, g1, g2, g3⟩ := q_unlike ht hr8 hm hC o1 q1 ho
    refine ⟨o', g1, ?_⟩
    rw [q2, Option.bind_some, if_neg h10, a, Option.bind_some, b, Option.bind_some, c, Option.bind_some, g3, Option.bind_some, show (100 : Int32) = nI 100 from rfl]
    have far : ¬ tri0 (bad cells (kO w) (nO w) (fO w)) (3 * r) → 1 ≤ many → many ≤ 8 → last < 8 → ¬ agW cells r w ∧ (if nI 100 ≤ nI (100 * many + last) then some ((0 : Int32), o') else some ((1 : Int32), o')) = some (0, o') := by
      intro z1 z2 z3 z4
      refine ⟨fun q => z1 q.2, ?_⟩
      rw [if_pos (wLe (by omega) (by omega) (by omega))]
    rcases g2 with ⟨rfl, rfl, z⟩ | ⟨rfl, z2, ⟨d, d1, d2, d3⟩, -⟩ | ⟨z1, z2, z3, d, d', d1, -, d3, -, -⟩
    · left
      refine ⟨⟨q1, z⟩, ?_⟩
      rw [if_neg (wNl (by omega) (by omega) (by omega))]
    · right
      exact far (fun q => q d d1 d2) (by omega) (by omega) (by omega)
    · right
      exact far (fun q => q d d1 d3) (by omega) (by omega) (by omega)
  · refine ⟨o, ho, .inr ⟨fun q => q1 q.1, ?_⟩⟩
    rw [q2, Option.bind_some, if_pos (show (0 : Int32) = 0 from rfl)]
theorem q_agX (hr8 : r ≤ 8) (hC : cellRel t r cells six m_cell) (hH : heldRel cells hr hc hs k (3 * r)) {w : Nat} (hw : w < 3609) (hfit : fit r w) : ∃ s, mX0_strayRow hr hc hs (nI k) (nI (kO w)) (nI (nO w)) (nI (fO w)) = some s ∧ (s = -1 ↔ agW cells r w) := by
  obtain ⟨o1, -⟩ := ok_w hw
  rcases q_stray hr8 hC o1 hfit hH with ⟨a, b⟩ | ⟨p, hp, a, ⟨c, c1, c2, c3⟩, b⟩ | ⟨a, c, d, c1, c2, c3, c4, c5⟩
  · exact ⟨_, a, fun _ => ⟨hfit, b⟩, fun _ => rfl⟩
  · exact ⟨_, a, fun q => absurd q (nI_m1 (by omega)), fun q => absurd c2 (q.2 c c1)⟩
  · exact ⟨_, a, fun q => absurd q (by decide), fun q => absurd c3 (q.2 c c1)⟩
theorem q_nr_loop (hr1 : 1 ≤ r) (hr8 : r ≤ 8) (hC : cellRel t r cells six m_cell) (hH : heldRel cells hr hc hs k (3 * r)) : ∀ (m w i f : Nat) (kd n fs : Int32), m + w = 3609 → i + m < 4000 → m < f → stS r w kd n fs → (∃ w1, w ≤ w1 ∧ w1 < 3609 ∧ agW cells r w1 ∧ (∀ x, w ≤ x → x < w1 → ¬ agW cells r x) ∧ mlX0_nextReading_2 hr hc hs (nI k) (nI r) (fun (a b c : Int32) => some ((0 : Int32), a, b, c)) f (nI i) kd n fs = some (1, nI (kO w1), nI (nO w1), nI (fO w1)) ∧ stS r (w1 + 1) (nI (kO w1)) (nI (nO w1)) (nI (fO w1))) ∨ ((∀ x, w ≤ x → x < 3609 → ¬ agW cells r x) ∧ ∃ a b c, mlX0_nextReading_2 hr hc hs (nI k) (nI r) (fun (a b c : Int32) => some ((0 : Int32), a, b, c)) f (nI i) kd n fs = some (0, a, b, c)) := by
  intro m
  induction m using Nat.strongRecOn with
  | _ m ih =>
    intro w i f kd n fs hm hi hf hst
    obtain ⟨f, rfl⟩ : ∃ z, f = z + 1 := ⟨f - 1, by omega⟩
    rw [mlX0_nextReading_2, if_neg (show ¬ (4000 : Int32) ≤ nI i from fun z => by have := (nI_leI (a := 4000) (by decide) (by omega)).mp z; omega)]
    rcases q_np hr1 hr8 hst with ⟨w1, g1, g2, g3, g4, g5, g6⟩ | ⟨g1, a, b, c, g2⟩
    · obtain ⟨s, s1, s2⟩ := q_agX hr8 hC hH g2 g4
      rw [g5, Option.bind_some, if_neg h10, s1, Option.bind_some]
      by_cases hag : agW cells r w1
      · rw [if_pos (s2.mpr hag)]
        left
        exact ⟨w1, g1, g2, hag, fun x q1 q2 q3 => g3 x q1 q2 q3.1, rfl, g6⟩
      · rw [if_neg (fun q => hag (s2.mp q)), md_letP, show nI i + (1 : Int32) = nI (i + 1) from nI_1 i]
        have hno : ∀ x, w ≤ x → x < w1 + 1 → ¬ agW cells r x := fun x q1 q2 q3 => by
          by_cases e : x = w1
          · subst e; exact hag q3
          · exact g3 x q1 (by omega) q3.1
        rcases ih (3609 - (w1 + 1)) (by omega) (w1 + 1) (i + 1) f _ _ _ (by omega) (by omega) (by omega) g6 with ⟨w2, j1, j2, j3, j4, j5, j6⟩ | ⟨j1, j2⟩
        · left
          refine ⟨w2, by omega, j2, j3, fun x q1 q2 => ?_, j5, j6⟩
          rcases Nat.lt_or_ge x (w1 + 1) with q | q
          · exact hno x q1 q
          · exact j4 x q q2
        · right
          refine ⟨fun x q1 q2 => ?_, j2⟩
          rcases Nat.lt_or_ge x (w1 + 1) with q | q
          · exact hno x q1 q
          · exact j1 x q q2
    · right
      refine ⟨fun x q1 q2 q3 => g1 x q1 q2 q3.1, a, b, c, ?_⟩
      rw [g2, Option.bind_some, if_pos (show (0 : Int32) = 0 from rfl)]
theorem q_nr (hr1 : 1 ≤ r) (hr8 : r ≤ 8) (hC : cellRel t r cells six m_cell) (hH : heldRel cells hr hc hs k (3 * r)) {w : Nat} (hw : w ≤ 3609) {kd n fs : Int32} (hst : stS r w kd n fs) : (∃ w1, w ≤ w1 ∧ w1 < 3609 ∧ agW cells r w1 ∧ (∀ x, w ≤ x → x < w1 → ¬ agW cells r x) ∧ mX0_nextReading hr hc hs (nI k) (nI r) kd n fs = some (1, nI (kO w1), nI (nO w1), nI (fO w1)) ∧ stS r (w1 + 1) (nI (kO w1)) (nI (nO w1)) (nI (fO w1))) ∨ ((∀ x, w ≤ x → x < 3609 → ¬ agW cells r x) ∧ ∃ a b c, mX0_nextReading hr hc hs (nI k) (nI r) kd n fs = some (0, a, b, c)) :=
  q_nr_loop hr1 hr8 hC hH (3609 - w) w 0 kN kd n fs (by omega) (by omega) (by have : kN = 5000 := rfl; omega) hst
theorem rg_step (x1 x2 : Int32) (mr mc : Nat → Int32) (kE : Int32 → (Nat → Int32) → Option (Int32 × (Nat → Int32))) (n : Nat) (x3 x4 : Int32) (o : Nat → Int32) : mlX7_reading_14 x1 x2 mr mc kE (n + 1) x3 x4 o = (if (3609 : Int32) ≤ x4 then kE x3 o else Option.bind (mX7_reads mr mc o x1 x4) (fun u4 => if u4.1 = 0 then mlX7_reading_14 x1 x2 mr mc kE n x3 (x4 + 1) u4.2 else if x3 = x2 then Option.bind (mX7_kindOf x4) (fun u9 => Option.bind (mX7_nOf x4) (fun u10 => Option.bind (mX7_firstOf x4) (fun u11 => some ((10000 : Int32) * u9 + (100 : Int32) * u10 + u11, u4.2)))) else mlX7_reading_14 x1 x2 mr mc kE n (x3 + 1) (x4 + 1) u4.2)) := by
  rw [mlX7_reading_14]
  simp only [md_jnP, md_letP]
theorem q_rg_skip (ht : t < 4) (hr8 : r ≤ 8) (hm : m_rows t = nI r) (hC : cellRel t r cells six m_cell) (x2 : Int32) (kF : Int32 → (Nat → Int32) → Option (Int32 × (Nat → Int32))) (x3 : Int32) : ∀ (d w g : Nat) (o : Nat → Int32), w + d ≤ 3609 → (∀ x, w ≤ x → x < w + d → ¬ agW cells r x) → overRel o → ∃ o', overRel o' ∧ mlX7_reading_14 (nI t) x2 m_rows m_cell kF (g + d) x3 (nI w) o = mlX7_reading_14 (nI t) x2 m_rows m_cell kF g x3 (nI (w + d)) o' := by
  intro d
  induction d with
  | zero => intro w g o _ _ ho; exact ⟨o, ho, rfl⟩
  | succ d ih =>
    intro w g o hw hn ho
    rw [show g + (d + 1) = (g + d) + 1 by omega, rg_step, if_neg (show ¬ (3609 : Int32) ≤ nI w from fun z => by have := (nI_leI (a := 3609) (by decide) (by omega)).mp z; omega)]
    obtain ⟨o1, p1, p2⟩ := q_reads ht hr8 hm hC ho (w := w) (by omega)
    rcases p2 with ⟨q, -⟩ | ⟨-, q⟩
    · exact absurd q (hn w (Nat.le_refl _) (by omega))
    · rw [q, Option.bind_some, if_pos (show (0 : Int32) = 0 from rfl), show nI w + (1 : Int32) = nI (w + 1) from nI_1 w]
      obtain ⟨o2, r1, r2⟩ := ih (w + 1) g o1 (by omega) (fun x q1 q2 => hn x (by omega) (by omega)) p1
      refine ⟨o2, r1, ?_⟩
      rw [r2, show w + 1 + d = w + (d + 1) by omega]
theorem q_rd_loop (ht : t < 4) (hr1 : 1 ≤ r) (hr8 : r ≤ 8) (hm : m_rows t = nI r) (hC : cellRel t r cells six m_cell) (hH : heldRel cells hr hc hs k (3 * r)) (x2 : Int32) (kE : Int32 → Int32 → Int32 → Int32 → Option (Int32 × (Nat → Int32) × (Nat → Int32) × (Nat → Int32) × Int32 × Int32 × Int32 × Int32 × Int32)) (kF : Int32 → (Nat → Int32) → Option (Int32 × (Nat → Int32))) (hk : ∀ y a b c o, ∃ q, kE y a b c = some (q, hr, hc, hs, nI k, nI r, a, b, c) ∧ kF y o = some (q, o)) : ∀ (m w i f g : Nat) (kd n fs x4 : Int32) (o : Nat → Int32), m + w = 3609 → i + m < 4000 → m < f → m < g → overRel o → stS r w kd n fs → ∃ q a b c o', mlX6_reading_i_26 x2 hr hc hs (nI k) (nI r) kE f x4 (nI i) kd n fs = some (q, hr, hc, hs, nI k, nI r, a, b, c) ∧ mlX7_reading_14 (nI t) x2 m_rows m_cell kF g x4 (nI w) o = some (q, o') ∧ overRel o' := by
  intro m
  induction m using Nat.strongRecOn with
  | _ m ih =>
    intro w i f g kd n fs x4 o hmw hi hf hg ho hst
    obtain ⟨f, rfl⟩ : ∃ z, f = z + 1 := ⟨f - 1, by omega⟩
    rw [mlX6_reading_i_26, if_neg (show ¬ (4000 : Int32) ≤ nI i from fun z => by have := (nI_leI (a := 4000) (by decide) (by omega)).mp z; omega)]
    rcases q_nr hr1 hr8 hC hH (by omega) hst with ⟨w1, g1, g2, g3, g4, g5, g6⟩ | ⟨g1, a, b, c, g2⟩
    · obtain ⟨g', hg'⟩ : ∃ z, g = (z + 1) + (w1 - w) := ⟨g - (w1 - w) - 1, by omega⟩
      obtain ⟨o1, p1, p2⟩ := q_rg_skip ht hr8 hm hC x2 kF x4 (w1 - w) w (g' + 1) o (by omega) (fun x q1 q2 => g4 x q1 (by omega)) ho
      rw [show w + (w1 - w) = w1 by omega] at p2
      obtain ⟨o2, p3, p4⟩ := q_reads ht hr8 hm hC p1 g2
      have p4 := p4.resolve_right (fun q => q.1 g3)
      obtain ⟨a, b, c⟩ := q_way g2
      rw [hg', p2, rg_step, if_neg (show ¬ (3609 : Int32) ≤ nI w1 from fun z => by have := (nI_leI (a := 3609) (by decide) (by omega)).mp z; omega), p4.2, Option.bind_some, if_neg h10, g5, Option.bind_some, if_neg h10, a, b, c, Option.bind_some, Option.bind_some, Option.bind_some, mX0_code, Option.bind_some]
      by_cases hx : x4 = x2
      · rw [if_pos hx, if_pos hx]
        exact ⟨_, _, _, _, _, rfl, rfl, p3⟩
      · rw [if_neg hx, if_neg hx, md_letP, md_letP, show nI i + (1 : Int32) = nI (i + 1) from nI_1 i, show nI w1 + (1 : Int32) = nI (w1 + 1) from nI_1 w1]
        exact ih (3609 - (w1 + 1)) (by omega) (w1 + 1) (i + 1) f g' _ _ _ _ o2 (by omega) (by omega) (by omega) (by omega) p3 g6
    · obtain ⟨g', hg'⟩ : ∃ z, g = (z + 1) + (3609 - w) := ⟨g - (3609 - w) - 1, by omega⟩
      obtain ⟨o1, p1, p2⟩ := q_rg_skip ht hr8 hm hC x2 kF x4 (3609 - w) w (g' + 1) o (by omega) (fun x q1 q2 => g1 x q1 (by omega)) ho
      rw [show w + (3609 - w) = 3609 by omega] at p2
      rw [hg', p2, rg_step, if_pos (show (3609 : Int32) ≤ nI 3609 from by decide), g2, Option.bind_some, if_pos (show (0 : Int32) = 0 from rfl)]
      obtain ⟨q, k1, k2⟩ := hk x4 a b c o1
      exact ⟨q, a, b, c, o1, k1, k2, p1⟩
end WAYS
/-- reading -/
theorem op_reading {t : Nat} (ht : t < 4) {cells six m_rows m_cell : Nat → Int32} {rows : Int32} (h : tabRel t cells six rows m_rows m_cell) {o : Nat → Int32} (ho : overRel o) (hr hc hs : Nat → Int32) (p2 : Int32) : ∃ q hr' hc' hs' k' r' a b c o', mX6_reading_i hr hc hs cells six rows (nI t) p2 = some (q, hr', hc', hs', k', r', a, b, c) ∧ mX7_reading m_rows m_cell o (nI t) p2 = some (q, o') ∧ overRel o' := by
  obtain ⟨r, h1, h2, rfl, h4, h5⟩ := h
  obtain ⟨hr', hc', hs', k, e1, e2⟩ := q_begin h2 h5 hr hc hs
  rw [mX6_reading_i, e1, Option.bind_some, mX7_reading, q_isT ht, Option.bind_some, if_neg h10]
  obtain ⟨q, a, b, c, o', g1, g2, g3⟩ := q_rd_loop ht h1 h2 h4 h5 e2 p2
    (fun (y4_67 : Int32) (s_kind_67 : Int32) (s_n_67 : Int32) (s_first_67 : Int32) => (if p2 = (-1 : Int32) then (some (y4_67, hr', hc', hs', nI k, nI r, s_kind_67, s_n_67, s_first_67)) else (some ((-6 : Int32), hr', hc', hs', nI k, nI r, s_kind_67, s_n_67, s_first_67))))
    (fun (y3_71 : Int32) (m_overs_71 : Nat → Int32) => (if p2 = (-1 : Int32) then (some (y3_71, m_overs_71)) else (some ((-6 : Int32), m_overs_71))))
    (fun y a b c o => by
      by_cases hp : p2 = -1
      · rw [if_pos hp, if_pos hp]; exact ⟨_, rfl, rfl⟩
      · rw [if_neg hp, if_neg hp]; exact ⟨_, rfl, rfl⟩) 3609 0 0 kN kN 0 1 (-1) 0 o rfl (by decide) (by decide) (by decide) ho (st_begin h2)
  exact ⟨q, hr', hc', hs', nI k, nI r, a, b, c, o', g1, g2, g3⟩
theorem op_reading_o {x : Int32} (hx : x < 0 ∨ nI 4 ≤ x) (m_rows m_cell o : Nat → Int32) (p2 : Int32) : mX7_reading m_rows m_cell o x p2 = some (-1, o) := by
  rw [mX7_reading, q_isTo hx]; rfl
section ODD
variable {t r k : Nat} {cells six m_rows m_cell hr hc hs : Nat → Int32}
theorem od_step (x1 : Int32) (mr mc : Nat → Int32) (kE : Int32 → (Nat → Int32) → Option (Int32 × (Nat → Int32))) (n : Nat) (x2 x3 : Int32) (o : Nat → Int32) : mlX7_odd_14 x1 mr mc kE (n + 1) x2 x3 o = (if (3609 : Int32) ≤ x3 then kE x2 o else Option.bind (mX7_fits mr x1 x3) (fun u4 => if u4 = 0 then mlX7_odd_14 x1 mr mc kE n x2 (x3 + 1) o else Option.bind (mX7_kindOf x3) (fun u7 => Option.bind (mX7_nOf x3) (fun u8 => Option.bind (mX7_firstOf x3) (fun u9 => Option.bind (mX7_unlike mr mc o x1 u7 u8 u9) (fun u10 => if (100 : Int32) ≤ u10.1 then (if 0 ≤ x2 then mlX7_odd_14 x1 mr mc kE n x2 (x3 + 1) u10.2 else if u10.1 / (100 : Int32) = (1 : Int32) then mlX7_odd_14 x1 mr mc kE n (u10.1 - u10.1 / (100 : Int32) * (100 : Int32)) (x3 + 1) u10.2 else mlX7_odd_14 x1 mr mc kE n x2 (x3 + 1) u10.2) else some ((-6 : Int32), u10.2))))))) := by
  rw [mlX7_odd_14]
  simp only [md_jnP, md_letP]
theorem ox_step (hr hc hs : Nat → Int32) (k r : Int32) (kE : Int32 → Int32 → Int32 → Int32 → Option (Int32 × (Nat → Int32) × (Nat → Int32) × (Nat → Int32) × Int32 × Int32 × Int32 × Int32 × Int32)) (n : Nat) (x3 x4 a b c : Int32) : mlX6_odd_i_26 hr hc hs k r kE (n + 1) x3 x4 a b c = (if (4000 : Int32) ≤ x4 then kE x3 a b c else Option.bind (mX0_nextPlace r a b c) (fun u3 => if u3.1 = 0 then kE x3 u3.2.1 u3.2.2.1 u3.2.2.2 else Option.bind (mX0_strayRow hr hc hs k u3.2.1 u3.2.2.1 u3.2.2.2) (fun u5 => if u5 = (-1 : Int32) then some ((-6 : Int32), hr, hc, hs, k, r, u3.2.1, u3.2.2.1, u3.2.2.2) else if x3 = (-6 : Int32) then (if u5 = (-2 : Int32) then mlX6_odd_i_26 hr hc hs k r kE n x3 (x4 + 1) u3.2.1 u3.2.2.1 u3.2.2.2 else mlX6_odd_i_26 hr hc hs k r kE n u5 (x4 + 1) u3.2.1 u3.2.2.1 u3.2.2.2) else mlX6_odd_i_26 hr hc hs k r kE n x3 (x4 + 1) u3.2.1 u3.2.2.1 u3.2.2.2))) := by
  rw [mlX6_odd_i_26]
  simp only [md_jnP, md_letP]
theorem q_od_skip (ht : t < 4) (hr8 : r ≤ 8) (hm : m_rows t = nI r) (kF : Int32 → (Nat → Int32) → Option (Int32 × (Nat → Int32))) (x2 : Int32) (o : Nat → Int32) : ∀ (d w g : Nat), w + d ≤ 3609 → (∀ x, w ≤ x → x < w + d → ¬ fit r x) → mlX7_odd_14 (nI t) m_rows m_cell kF (g + d) x2 (nI w) o = mlX7_odd_14 (nI t) m_rows m_cell kF g x2 (nI (w + d)) o := by
  intro d
  induction d with
  | zero => intro w g _ _; rfl
  | succ d ih =>
    intro w g hw hn
    rw [show g + (d + 1) = (g + d) + 1 by omega, od_step, if_neg (show ¬ (3609 : Int32) ≤ nI w from fun z => by have := (nI_leI (a := 3609) (by decide) (by omega)).mp z; omega)]
    rcases q_fits ht hr8 hm (w := w) (by omega) with ⟨q, -⟩ | ⟨-, q⟩
    · exact absurd q (hn w (Nat.le_refl _) (by omega))
    · rw [q, Option.bind_some, if_pos (show (0 : Int32) = 0 from rfl), show nI w + (1 : Int32) = nI (w + 1) from nI_1 w, ih (w + 1) g (by omega) (fun x q1 q2 => hn x (by omega) (by omega)), show w + 1 + d = w + (d + 1) by omega]
theorem q_od_loop (ht : t < 4) (hr1 : 1 ≤ r) (hr8 : r ≤ 8) (hm : m_rows t = nI r) (hC : cellRel t r cells six m_cell) (hH : heldRel cells hr hc hs k (3 * r)) (kE : Int32 → Int32 → Int32 → Int32 → Option (Int32 × (Nat → Int32) × (Nat → Int32) × (Nat → Int32) × Int32 × Int32 × Int32 × Int32 × Int32)) (kF : Int32 → (Nat → Int32) → Option (Int32 × (Nat → Int32))) (hk : ∀ y a b c o, ∃ q, kE y a b c = some (q, hr, hc, hs, nI k, nI r, a, b, c) ∧ kF y o = some (q, o)) : ∀ (m w i f g : Nat) (kd n fs x : Int32) (o : Nat → Int32), m + w = 3609 → i + m < 4000 → m < f → m < g → (x = -6 ∨ ∃ p, p < 8 ∧ x = nI p) → overRel o → stS r w kd n fs → ∃ q a b c o', mlX6_odd_i_26 hr hc hs (nI k) (nI r) kE f x (nI i) kd n fs = some (q, hr, hc, hs, nI k, nI r, a, b, c) ∧ mlX7_odd_14 (nI t) m_rows m_cell kF g x (nI w) o = some (q, o') ∧ overRel o' := by
  intro m
  induction m using Nat.strongRecOn with
  | _ m ih =>
    intro w i f g kd n fs x o hmw hi hf hg hx ho hst
    obtain ⟨f, rfl⟩ : ∃ z, f = z + 1 := ⟨f - 1, by omega⟩
    rw [ox_step, if_neg (show ¬ (4000 : Int32) ≤ nI i from fun z => by have := (nI_leI (a := 4000) (by decide) (by omega)).mp z; omega)]
    rcases q_np hr1 hr8 hst with ⟨w1, g1, g2, g3, g4, g5, g6⟩ | ⟨g1, a, b, c, g2⟩
    · obtain ⟨g', hg'⟩ : ∃ z, g = (z + 1) + (w1 - w) := ⟨g - (w1 - w) - 1, by omega⟩
      have p2 := q_od_skip (m_cell := m_cell) ht hr8 hm kF x o (w1 - w) w (g' + 1) (by omega) (fun x q1 q2 => g3 x q1 (by omega))
      rw [show w + (w1 - w) = w1 by omega] at p2
      have hf1 := (q_fits ht hr8 hm g2).resolve_right (fun q => q.1 g4)
      obtain ⟨a, b, c⟩ := q_way g2
      obtain ⟨s, u, o', s1, s2, s3, s4⟩ := q_place ht hr8 hm hC (ok_w g2).1 g4 hH ho
      rw [hg', p2, od_step, if_neg (show ¬ (3609 : Int32) ≤ nI w1 from fun z => by have := (nI_leI (a := 3609) (by decide) (by omega)).mp z; omega), hf1.2, Option.bind_some, if_neg h10, a, b, c, Option.bind_some, Option.bind_some, Option.bind_some, s2, Option.bind_some, g5, Option.bind_some, if_neg h10, s1, Option.bind_some, show nI i + (1 : Int32) = nI (i + 1) from nI_1 i, show nI w1 + (1 : Int32) = nI (w1 + 1) from nI_1 w1, show (100 : Int32) = nI 100 from rfl]
      have go : ∀ y, (y = -6 ∨ ∃ p, p < 8 ∧ y = nI p) → ∃ q a b c o'', mlX6_odd_i_26 hr hc hs (nI k) (nI r) kE f y (nI (i + 1)) (nI (kO w1)) (nI (nO w1)) (nI (fO w1)) = some (q, hr, hc, hs, nI k, nI r, a, b, c) ∧ mlX7_odd_14 (nI t) m_rows m_cell kF g' y (nI (w1 + 1)) o' = some (q, o'') ∧ overRel o'' := fun y hy => ih (3609 - (w1 + 1)) (by omega) (w1 + 1) (i + 1) f g' _ _ _ y o' (by omega) (by omega) (by omega) (by omega) hy s3 g6
      rcases s4 with ⟨rfl, rfl, -⟩ | ⟨p, hp, rfl, rfl, -⟩ | ⟨rfl, hu1, hu2, -⟩
      · rw [if_pos rfl, if_neg (wNl (by omega) (by omega) (by omega))]
        exact ⟨_, _, _, _, _, rfl, rfl, s3⟩
      · rw [if_neg (nI_m1 (by omega)), if_pos (wLe (by omega) (by omega) (by omega)), if_neg (nI_m2 (by omega)), pk_div (by omega) (by decide) (by decide), show (100 + p) / 100 = 1 by omega, if_pos y11, show nI (100 + p) - nI 1 * nI 100 = nI p from by rw [pk_mul, pk_sub (by omega), show 100 + p - 1 * 100 = p by omega]]
        rcases hx with rfl | ⟨p', hp', rfl⟩
        · rw [if_pos rfl, if_neg (show ¬ (0 : Int32) ≤ -6 by decide)]
          exact go _ (.inr ⟨p, hp, rfl⟩)
        · rw [if_neg (nI_m6 (by omega)), if_pos (nI_pos' (by omega))]
          exact go _ (.inr ⟨p', hp', rfl⟩)
      · rw [if_neg (show ¬ (-2 : Int32) = -1 by decide), if_pos (wLe (by omega) (by omega) (by omega)), if_pos rfl, pk_div (by omega) (by decide) (by decide), if_neg (show ¬ nI (u / 100) = (1 : Int32) from fun q => by have := (nI_eq (b := 1) (by omega) (by decide)).mp q; omega)]
        rcases hx with rfl | ⟨p', hp', rfl⟩
        · rw [if_pos rfl, if_neg (show ¬ (0 : Int32) ≤ -6 by decide)]
          exact go _ (.inl rfl)
        · rw [if_neg (nI_m6 (by omega)), if_pos (nI_pos' (by omega))]
          exact go _ (.inr ⟨p', hp', rfl⟩)
    · obtain ⟨g', hg'⟩ : ∃ z, g = (z + 1) + (3609 - w) := ⟨g - (3609 - w) - 1, by omega⟩
      have p2 := q_od_skip (m_cell := m_cell) ht hr8 hm kF x o (3609 - w) w (g' + 1) (by omega) (fun x q1 q2 => g1 x q1 (by omega))
      rw [show w + (3609 - w) = 3609 by omega] at p2
      rw [hg', p2, od_step, if_pos (show (3609 : Int32) ≤ nI 3609 from by decide), g2, Option.bind_some, if_pos (show (0 : Int32) = 0 from rfl)]
      obtain ⟨q, k1, k2⟩ := hk x a b c o
      exact ⟨q, a, b, c, o, k1, k2, ho⟩
end ODD
/-- odd -/
theorem op_odd {t : Nat} (ht : t < 4) {cells six m_rows m_cell : Nat → Int32} {rows : Int32} (h : tabRel t cells six rows m_rows m_cell) {o : Nat → Int32} (ho : overRel o) (hr hc hs : Nat → Int32) : ∃ q hr' hc' hs' k' r' a b c o', mX6_odd_i hr hc hs cells six rows (nI t) = some (q, hr', hc', hs', k', r', a, b, c) ∧ mX7_odd m_rows m_cell o (nI t) = some (q, o') ∧ overRel o' := by
  obtain ⟨r, h1, h2, rfl, h4, h5⟩ := h
  obtain ⟨hr', hc', hs', k, e1, e2⟩ := q_begin h2 h5 hr hc hs
  rw [mX6_odd_i, e1, Option.bind_some, mX7_odd, q_isT ht, Option.bind_some, if_neg h10]
  obtain ⟨q, a, b, c, o', g1, g2, g3⟩ := q_od_loop ht h1 h2 h4 h5 e2
    (fun (y3_84 : Int32) (s_kind_84 : Int32) (s_n_84 : Int32) (s_first_84 : Int32) => (some (y3_84, hr', hc', hs', nI k, nI r, s_kind_84, s_n_84, s_first_84)))
    (fun (y2_88 : Int32) (m_overs_88 : Nat → Int32) => (some (y2_88, m_overs_88)))
    (fun y a b c o => ⟨_, rfl, rfl⟩) 3609 0 0 kN kN 0 1 (-1) (-6) o rfl (by decide) (by decide) (by decide) (.inl rfl) ho (st_begin h2)
  exact ⟨q, hr', hc', hs', nI k, nI r, a, b, c, o', g1, g2, g3⟩
theorem op_odd_o {x : Int32} (hx : x < 0 ∨ nI 4 ≤ x) (m_rows m_cell o : Nat → Int32) : mX7_odd m_rows m_cell o x = some (-1, o) := by
  rw [mX7_odd, q_isTo hx]; rfl
