/-! TIMES -/
theorem top_dig : ∀ (k n : Nat), 1 ≤ n → n < 60 ^ k → ∃ m, lnF k n = m + 1 ∧ n / 60 ^ m % 60 ≠ 0 ∧ ∀ q, m < q → n / 60 ^ q % 60 = 0 := by
  intro k
  induction k with
  | zero => intro n h1 h2; simp at h2; omega
  | succ k ih =>
    intro n h1 h2
    rw [lnF, if_neg (by omega)]
    by_cases h : n / 60 = 0
    · refine ⟨0, ?_, ?_, fun q hq => ?_⟩
      · rw [h]
        have : lnF k 0 = 0 := by cases k <;> rfl
        rw [this]
      · rw [Nat.pow_zero, Nat.div_one]; omega
      · obtain ⟨q, rfl⟩ : ∃ z, q = z + 1 := ⟨q - 1, by omega⟩
        rw [Nat.pow_succ, Nat.mul_comm, ← Nat.div_div_eq_div_mul, h, Nat.zero_div]
    · obtain ⟨m, e, h3, h4⟩ := ih (n / 60) (by omega) (by rw [Nat.pow_succ] at h2; omega)
      refine ⟨m + 1, by omega, ?_, fun q hq => ?_⟩
      · rw [Nat.pow_succ, Nat.mul_comm, ← Nat.div_div_eq_div_mul]; exact h3
      · obtain ⟨q, rfl⟩ : ∃ z, q = z + 1 := ⟨q - 1, by omega⟩
        rw [Nat.pow_succ, Nat.mul_comm, ← Nat.div_div_eq_div_mul]; exact h4 q (by omega)
theorem e60_4 : (60 : Nat) ^ 4 = 12960000 := by decide
theorem top_dig4 {n : Nat} (h1 : 1 ≤ n) (h2 : n < 12960000) : ∃ m, m ≤ 3 ∧ ln n = m + 1 ∧ n / 60 ^ m % 60 ≠ 0 ∧ ∀ q, m < q → n / 60 ^ q % 60 = 0 := by
  obtain ⟨m, e, h3, h4⟩ := top_dig 8 n h1 (by rw [e60_8]; omega)
  refine ⟨m, ?_, e, h3, h4⟩
  rcases Nat.lt_or_ge m 4 with q | q
  · omega
  · exfalso
    apply h3
    have : (60 : Nat) ^ 4 ≤ 60 ^ m := Nat.pow_le_pow_right (by decide) q
    rw [Nat.div_eq_of_lt (by rw [e60_4] at this; omega)]
theorem q_dsh (p : Int64) : ((p < 1 ∨ (12960000 : Int64) ≤ p) ∧ mX7_isShort p = some 0) ∨ ∃ n, 1 ≤ n ∧ n < 12960000 ∧ p = lN n ∧ mX7_isShort p = some 1 := by
  have e1 : (1 : Int64).toInt = 1 := by decide
  have e2 : (12959999 : Int64).toInt = 12959999 := by decide
  have e3 : (12960000 : Int64).toInt = 12960000 := by decide
  by_cases h : 1 ≤ p.toInt ∧ p.toInt ≤ 12959999
  · right
    obtain ⟨k, hk, rfl⟩ := pk_lOf (x := p) (by
      rw [Int64.lt_iff_toInt_lt]
      have : (0 : Int64).toInt = 0 := by decide
      omega)
    have e := pk_lT hk
    refine ⟨k, by omega, by omega, rfl, ?_⟩
    rw [mX7_isShort, q_in, if_pos (by rw [Int64.le_iff_toInt_le, Int64.le_iff_toInt_le, e1, e2]; exact h)]
    rfl
  · left
    refine ⟨by rw [Int64.lt_iff_toInt_lt, Int64.le_iff_toInt_le, e1, e3]; omega, ?_⟩
    rw [mX7_isShort, q_in, if_neg (by rw [Int64.le_iff_toInt_le, Int64.le_iff_toInt_le, e1, e2]; exact h)]
    rfl
theorem m1_sub (x : Int32) : x + (-1 : Int32) = x - 1 := by rw [Int32.sub_eq_add_neg]
section TIMES
variable {n m p : Nat} {xX xY xP mp mq mX mY : Nat → Int32}
abbrev tmK := Int32 → (Nat → Int32) → (Nat → Int32) → (Nat → Int32) → (Nat → Int32) → Option (Int32 × Int32 × Int32 × (Nat → Int32) × (Nat → Int32) × (Nat → Int32) × (Nat → Int32))
abbrev txK := (Nat → Int32) → (Nat → Int32) → (Nat → Int32) → Int32 → Option ((Nat → Int32) × (Nat → Int32) × (Nat → Int32) × Int32)
theorem rt_step (x1 x3 : Int64) (x5 : Int32) (kE : tmK) (g : Nat) (x6 l : Int32) (A B C D : Nat → Int32) : mlX7_times__38 x1 x3 x5 kE (g + 1) x6 l A B C D = (if x6 < 0 then kE l A B C D else Option.bind (mX7_digitAt x1 x5) (fun u7 => Option.bind (mX7_digitAt x3 x6) (fun u8 => if u7 ≤ 0 then mlX7_times__38 x1 x3 x5 kE g (x6 + (-1 : Int32)) l A B C D else if u8 ≤ 0 then mlX7_times__38 x1 x3 x5 kE g (x6 + (-1 : Int32)) l A B C D else if l < 0 ∨ 16 ≤ l.toNatClampNeg then none else mlX7_times__38 x1 x3 x5 kE g (x6 + (-1 : Int32)) (l + 1) (upd A l.toNatClampNeg (u7 * u8)) (upd B l.toNatClampNeg (x5 + x6)) (upd C l.toNatClampNeg u7) (upd D l.toNatClampNeg u8)))) := by
  rw [mlX7_times__38]
  simp only [md_jnP, md_letP]
  by_cases h : l < 0 ∨ 16 ≤ l.toNatClampNeg
  · simp only [if_pos h]
  · simp only [if_neg h]
/-- nothing is written where a digit is 0 -/
theorem rt_zero (hn : n < 2 ^ 62) (hm : m < 2 ^ 62) (hp : p ≤ 3) {c : Nat} (hc : c ≤ 3) (hz : n / 60 ^ p % 60 = 0 ∨ m / 60 ^ c % 60 = 0) (kE : tmK) (g : Nat) (l : Int32) (A B C D : Nat → Int32) : mlX7_times__38 (lN n) (lN m) (nI p) kE (g + 1) (nI c) l A B C D = mlX7_times__38 (lN n) (lN m) (nI p) kE g (nI c - 1) l A B C D := by
  rw [rt_step, if_neg (nI_pos (by omega)), q_digitAt hn (by omega), Option.bind_some, q_digitAt hm (by omega), Option.bind_some, m1_sub]
  by_cases ha : nI (n / 60 ^ p % 60) ≤ 0
  · rw [if_pos ha]
  · rw [if_neg ha, if_pos]
    rcases hz with h | h
    · rw [h] at ha; exact absurd (by decide) ha
    · rw [h]; decide
theorem rt_skip (hn : n < 2 ^ 62) (hm : m < 2 ^ 62) (hp : p ≤ 3) (b : Nat) (hz : n / 60 ^ p % 60 = 0 ∨ ∀ c, b ≤ c → m / 60 ^ c % 60 = 0) (kE : tmK) (l : Int32) (A B C D : Nat → Int32) : ∀ (d g : Nat), b + d ≤ 4 → b + d < g → ∃ g', b < g' ∧ mlX7_times__38 (lN n) (lN m) (nI p) kE g (nI (b + d) - 1) l A B C D = mlX7_times__38 (lN n) (lN m) (nI p) kE g' (nI b - 1) l A B C D := by
  intro d
  induction d with
  | zero => intro g h1 h2; exact ⟨g, h2, rfl⟩
  | succ d ih =>
    intro g h1 h2
    obtain ⟨g, rfl⟩ : ∃ z, g = z + 1 := ⟨g - 1, by omega⟩
    obtain ⟨g', h3, h4⟩ := ih g (by omega) (by omega)
    refine ⟨g', h3, ?_⟩
    rw [show b + (d + 1) = (b + d) + 1 by omega, nI_pred, rt_zero hn hm hp (by omega) (hz.imp id (fun h => h _ (by omega))), h4]
theorem rt_end (x1 x3 : Int64) (x5 : Int32) (kE : tmK) {g : Nat} (hg : 0 < g) (l : Int32) (A B C D : Nat → Int32) : mlX7_times__38 x1 x3 x5 kE g (nI 0 - 1) l A B C D = kE l A B C D := by
  obtain ⟨g, rfl⟩ : ∃ z, g = z + 1 := ⟨g - 1, by omega⟩
  rw [rt_step, if_pos (by decide)]
theorem wr_zero {l : Int32} {a b q : Int32} (h : a = 0 ∨ b = 0) : mX5_write xX xY xP l a b q = some (xX, xY, xP, l) := by
  rw [mX5_write]
  by_cases ha : a = 0
  · rw [if_pos ha]
  · rw [if_neg ha, if_pos (h.resolve_left ha)]
theorem wr_one {k : Nat} (hk : k < 16) {a b q : Int32} (ha : ¬ a = 0) (hb : ¬ b = 0) : mX5_write xX xY xP (nI k) a b q = some (upd xX k a, upd xY k b, upd xP k q, nI (k + 1)) := by
  have hin := nI_in (c := k) (N := 16) hk (by decide)
  rw [mX5_write, if_neg ha, if_neg hb, if_neg (nI_pos (by omega)), if_pos (show nI k < (16 : Int32) from (nI_ltI (b := 16) (by omega) (by decide)).mpr hk), if_neg hin]
  simp only [md_letP]
  rw [if_neg hin, if_neg hin, nI_clamp (by omega), show nI k + (1 : Int32) = nI (k + 1) from nI_1 k]
/-- the row of one digit of x -/
theorem q_trow (hn : n < 2 ^ 62) (hm : m < 2 ^ 62) (hp : p ≤ 3) (kE : txK) (kF : tmK) : ∀ (b k f g : Nat) (xX xY xP mp mq mX mY : Nat → Int32), b ≤ 4 → k + b ≤ 16 → b < f → b < g → (∀ i, i < k → lineRel xX xY xP mp mq mX mY i) → ∃ (k' : Nat) (xX' xY' xP' mp' mq' mX' mY' : Nat → Int32), k ≤ k' ∧ k' ≤ k + b ∧ (n / 60 ^ p % 60 ≠ 0 → (∃ c, b = c + 1 ∧ m / 60 ^ c % 60 ≠ 0) → 1 ≤ k') ∧ (∀ i, i < k' → lineRel xX' xY' xP' mp' mq' mX' mY' i) ∧ mlX5_begin_26 (lN n) (lN m) (nI p) kE f (nI b - 1) xX xY xP (nI k) = kE xX' xY' xP' (nI k') ∧ mlX7_times__38 (lN n) (lN m) (nI p) kF g (nI b - 1) (nI k) mp mq mX mY = kF (nI k') mp' mq' mX' mY' := by
  intro b
  induction b with
  | zero =>
    intro k f g xX xY xP mp mq mX mY _ _ hf hg hs
    obtain ⟨f, rfl⟩ : ∃ z, f = z + 1 := ⟨f - 1, by omega⟩
    refine ⟨k, xX, xY, xP, mp, mq, mX, mY, Nat.le_refl _, Nat.le_refl _, ?_, hs, ?_, rt_end _ _ _ _ (by omega) _ _ _ _ _⟩
    · intro _ ⟨c, hc, _⟩; omega
    · rw [mlX5_begin_26, if_pos (by decide)]
  | succ b ih =>
    intro k f g xX xY xP mp mq mX mY h4 h16 hf hg hs
    obtain ⟨f, rfl⟩ : ∃ z, f = z + 1 := ⟨f - 1, by omega⟩
    obtain ⟨g, rfl⟩ : ∃ z, g = z + 1 := ⟨g - 1, by omega⟩
    have ha : n / 60 ^ p % 60 < 60 := Nat.mod_lt _ (by decide)
    have hb : m / 60 ^ b % 60 < 60 := Nat.mod_lt _ (by decide)
    rw [nI_pred]
    by_cases hz : n / 60 ^ p % 60 = 0 ∨ m / 60 ^ b % 60 = 0
    · obtain ⟨k', X1, X2, X3, M1, M2, M3, M4, g1, g2, g3, g4, g5, g6⟩ := ih k f g xX xY xP mp mq mX mY (by omega) (by omega) (by omega) (by omega) hs
      refine ⟨k', X1, X2, X3, M1, M2, M3, M4, g1, by omega, ?_, g4, ?_, ?_⟩
      · intro q1 ⟨c, hc, q2⟩
        obtain rfl : b = c := by omega
        exact absurd hz (by omega)
      · rw [mlX5_begin_26, if_neg (nI_pos (by omega)), q_digitAhead hn (by omega), Option.bind_some, q_digitAhead hm (by omega), Option.bind_some, wr_zero (hz.imp (fun h => by rw [h]; rfl) (fun h => by rw [h]; rfl)), Option.bind_some, md_letP, m1_sub]
        exact g5
      · rw [rt_zero hn hm hp (by omega) hz]
        exact g6
    · have hza : n / 60 ^ p % 60 ≠ 0 := fun q => hz (.inl q)
      have hzb : m / 60 ^ b % 60 ≠ 0 := fun q => hz (.inr q)
      have hna : ¬ nI (n / 60 ^ p % 60) = 0 := nI_ne0 (by omega) (by omega)
      have hnb : ¬ nI (m / 60 ^ b % 60) = 0 := nI_ne0 (by omega) (by omega)
      have hla : ¬ nI (n / 60 ^ p % 60) ≤ 0 := nI_nle (by omega) (by omega)
      have hlb : ¬ nI (m / 60 ^ b % 60) ≤ 0 := nI_nle (by omega) (by omega)
      have hin := nI_in (c := k) (N := 16) (by omega) (by decide)
      have hnew : ∀ i, i < k + 1 → lineRel (upd xX k (nI (n / 60 ^ p % 60))) (upd xY k (nI (m / 60 ^ b % 60))) (upd xP k (nI (p + b))) (upd mp k (nI (n / 60 ^ p % 60 * (m / 60 ^ b % 60)))) (upd mq k (nI (p + b))) (upd mX k (nI (n / 60 ^ p % 60))) (upd mY k (nI (m / 60 ^ b % 60))) i := by
        intro i hi
        by_cases hik : i = k
        · subst hik
          exact ⟨_, _, p + b, by omega, ha, by omega, hb, by omega, pk_us, pk_us, pk_us, pk_us, pk_us, pk_us, pk_us⟩
        · obtain ⟨a, c, q, r1, r2, r3, r4, r5, r6, r7, r8, r9, r10, r11, r12⟩ := hs i (by omega)
          exact ⟨a, c, q, r1, r2, r3, r4, r5, by rw [pk_un hik]; exact r6, by rw [pk_un hik]; exact r7, by rw [pk_un hik]; exact r8, by rw [pk_un hik]; exact r9, by rw [pk_un hik]; exact r10, by rw [pk_un hik]; exact r11, by rw [pk_un hik]; exact r12⟩
      obtain ⟨k', X1, X2, X3, M1, M2, M3, M4, g1, g2, g3, g4, g5, g6⟩ := ih (k + 1) f g _ _ _ _ _ _ _ (by omega) (by omega) (by omega) (by omega) hnew
      refine ⟨k', X1, X2, X3, M1, M2, M3, M4, by omega, by omega, fun _ _ => by omega, g4, ?_, ?_⟩
      · rw [mlX5_begin_26, if_neg (nI_pos (by omega)), q_digitAhead hn (by omega), Option.bind_some, q_digitAhead hm (by omega), Option.bind_some, wr_one (by omega) hna hnb, Option.bind_some, md_letP, m1_sub, nI_add]
        exact g5
      · rw [rt_step, if_neg (nI_pos (by omega)), q_digitAt hn (by omega), Option.bind_some, q_digitAt hm (by omega), Option.bind_some, if_neg hla, if_neg hlb, if_neg hin, m1_sub, nI_clamp (by omega), nI_add, pk_mul, show nI k + (1 : Int32) = nI (k + 1) from nI_1 k]
        exact g6
theorem ro_zero (hn : n < 2 ^ 62) (hm : m < 2 ^ 62) (hp : p ≤ 3) (hz : n / 60 ^ p % 60 = 0) (kF : tmK) (g : Nat) (l : Int32) (A B C D : Nat → Int32) : mlX7_times__30 (lN n) (lN m) kF (g + 1) (nI p) l A B C D = mlX7_times__30 (lN n) (lN m) kF g (nI p - 1) l A B C D := by
  rw [mlX7_times__30, if_neg (nI_pos (by omega))]
  obtain ⟨g', h1, h2⟩ := rt_skip hn hm hp 0 (.inl hz) (fun (m_lines_135 : Int32) (m_product_135 : Nat → Int32) (m_place_135 : Nat → Int32) (m_ofX_135 : Nat → Int32) (m_ofY_135 : Nat → Int32) => (md_let (nI p + (-1 : Int32)) (fun (x5_17 : Int32) => (mlX7_times__30 (lN n) (lN m) kF g x5_17 m_lines_135 m_product_135 m_place_135 m_ofX_135 m_ofY_135)))) l A B C D 4 kN (by omega) (by have : kN = 5000 := rfl; omega)
  rw [show nI (0 + 4) - 1 = (3 : Int32) from by decide] at h2
  rw [h2, rt_end _ _ _ _ h1, md_letP, m1_sub]
theorem ro_skip (hn : n < 2 ^ 62) (hm : m < 2 ^ 62) (a : Nat) (hz : ∀ c, a ≤ c → n / 60 ^ c % 60 = 0) (kF : tmK) (l : Int32) (A B C D : Nat → Int32) : ∀ (d g : Nat), a + d ≤ 4 → a + d < g → ∃ g', a < g' ∧ mlX7_times__30 (lN n) (lN m) kF g (nI (a + d) - 1) l A B C D = mlX7_times__30 (lN n) (lN m) kF g' (nI a - 1) l A B C D := by
  intro d
  induction d with
  | zero => intro g h1 h2; exact ⟨g, h2, rfl⟩
  | succ d ih =>
    intro g h1 h2
    obtain ⟨g, rfl⟩ : ∃ z, g = z + 1 := ⟨g - 1, by omega⟩
    obtain ⟨g', h3, h4⟩ := ih g (by omega) (by omega)
    refine ⟨g', h3, ?_⟩
    rw [show a + (d + 1) = (a + d) + 1 by omega, nI_pred, ro_zero hn hm (by omega) (hz _ (by omega)), h4]
/-- all rows: b digits of y -/
theorem q_trows (hn : n < 2 ^ 62) (hm : m < 2 ^ 62) {b : Nat} (hb : b ≤ 3) (hl : ln m = b + 1) (hb1 : m / 60 ^ b % 60 ≠ 0) (hb2 : ∀ q, b < q → m / 60 ^ q % 60 = 0) (kE : txK) (kF : tmK) : ∀ (a k f g : Nat) (xX xY xP mp mq mX mY : Nat → Int32), a ≤ 4 → k + 4 * a ≤ 16 → a < f → a < g → (∀ i, i < k → lineRel xX xY xP mp mq mX mY i) → ∃ (k' : Nat) (xX' xY' xP' mp' mq' mX' mY' : Nat → Int32), k ≤ k' ∧ k' ≤ 16 ∧ ((∃ c, a = c + 1 ∧ n / 60 ^ c % 60 ≠ 0) → 1 ≤ k') ∧ (∀ i, i < k' → lineRel xX' xY' xP' mp' mq' mX' mY' i) ∧ mlX5_begin_13 (lN n) (lN m) kE f (nI a - 1) xX xY xP (nI k) = kE xX' xY' xP' (nI k') ∧ mlX7_times__30 (lN n) (lN m) kF g (nI a - 1) (nI k) mp mq mX mY = kF (nI k') mp' mq' mX' mY' := by
  intro a
  induction a with
  | zero =>
    intro k f g xX xY xP mp mq mX mY _ h16 hf hg hs
    obtain ⟨f, rfl⟩ : ∃ z, f = z + 1 := ⟨f - 1, by omega⟩
    obtain ⟨g, rfl⟩ : ∃ z, g = z + 1 := ⟨g - 1, by omega⟩
    refine ⟨k, xX, xY, xP, mp, mq, mX, mY, Nat.le_refl _, by omega, ?_, hs, ?_, ?_⟩
    · intro ⟨c, hc, _⟩; omega
    · rw [mlX5_begin_13, if_pos (by decide)]
    · rw [mlX7_times__30, if_pos (by decide)]
  | succ a ih =>
    intro k f g xX xY xP mp mq mX mY h4 h16 hf hg hs
    obtain ⟨f, rfl⟩ : ∃ z, f = z + 1 := ⟨f - 1, by omega⟩
    obtain ⟨g, rfl⟩ : ∃ z, g = z + 1 := ⟨g - 1, by omega⟩
    rw [nI_pred, mlX5_begin_13, if_neg (nI_pos (by omega)), q_length hm, Option.bind_some, md_letP, hl, mlX7_times__30, if_neg (nI_pos (by omega))]
    obtain ⟨g', z1, z2⟩ := rt_skip (p := a) hn hm (by omega) (b + 1) (.inr (fun c hc => hb2 c (by omega))) (fun (m_lines_135 : Int32) (m_product_135 : Nat → Int32) (m_place_135 : Nat → Int32) (m_ofX_135 : Nat → Int32) (m_ofY_135 : Nat → Int32) => (md_let (nI a + (-1 : Int32)) (fun (x5_17 : Int32) => (mlX7_times__30 (lN n) (lN m) kF g x5_17 m_lines_135 m_product_135 m_place_135 m_ofX_135 m_ofY_135)))) (nI k) mp mq mX mY (3 - b) kN (by omega) (by have : kN = 5000 := rfl; omega)
    rw [show nI (b + 1 + (3 - b)) - 1 = (3 : Int32) from by rw [show b + 1 + (3 - b) = 4 by omega]; decide] at z2
    rw [z2]
    obtain ⟨k1, X1, X2, X3, M1, M2, M3, M4, g1, g2, g3, g4, g5, g6⟩ := q_trow (p := a) hn hm (by omega)
      (fun (w_ofX_58 : Nat → Int32) (w_ofY_58 : Nat → Int32) (w_places_58 : Nat → Int32) (w_lines_58 : Int32) => (md_let (nI a + (-1 : Int32)) (fun (x5_11 : Int32) => (mlX5_begin_13 (lN n) (lN m) kE f x5_11 w_ofX_58 w_ofY_58 w_places_58 w_lines_58))))
      (fun (m_lines_135 : Int32) (m_product_135 : Nat → Int32) (m_place_135 : Nat → Int32) (m_ofX_135 : Nat → Int32) (m_ofY_135 : Nat → Int32) => (md_let (nI a + (-1 : Int32)) (fun (x5_17 : Int32) => (mlX7_times__30 (lN n) (lN m) kF g x5_17 m_lines_135 m_product_135 m_place_135 m_ofX_135 m_ofY_135)))) (b + 1) k kN g' xX xY xP mp mq mX mY (by omega) (by omega) (by have : kN = 5000 := rfl; omega) z1 hs
    obtain ⟨k2, Y1, Y2, Y3, N1, N2, N3, N4, j1, j2, j3, j4, j5, j6⟩ := ih k1 f g X1 X2 X3 M1 M2 M3 M4 (by omega) (by omega) (by omega) (by omega) g4
    refine ⟨k2, Y1, Y2, Y3, N1, N2, N3, N4, by omega, j2, ?_, j4, ?_, ?_⟩
    · intro ⟨c, hc, q⟩
      obtain rfl : a = c := by omega
      have := g3 q ⟨b, rfl, hb1⟩
      omega
    · rw [g5, md_letP, m1_sub]; exact j5
    · rw [g6, md_letP, m1_sub]; exact j6
end TIMES
/-- times -/
theorem op_times {xX xY xP mp mq mX mY : Nat → Int32} {xl mw ml : Int32} (h : workRel xX xY xP xl mw ml mp mq mX mY) (p q : Int64) : ∃ r xX' xY' xP' xl' mw' ml' mp' mq' mX' mY', mX6_times xX xY xP xl p q = some (r, xX', xY', xP', xl') ∧ mX7_times_ mw ml mp mq mX mY p q = some (r, mw', ml', mp', mq', mX', mY') ∧ workRel xX' xY' xP' xl' mw' ml' mp' mq' mX' mY' := by
  rw [mX6_times, mX7_times_]
  rcases q_dsh p with ⟨hc, hz⟩ | ⟨n, hn1, hn2, rfl, hz⟩
  · refine ⟨-2, xX, xY, xP, xl, mw, ml, mp, mq, mX, mY, ?_, by rw [hz]; rfl, h⟩
    by_cases h1 : p < 1
    · rw [if_pos h1]
    · rw [if_neg h1, if_pos (hc.resolve_left h1)]
  · rw [hz, Option.bind_some, if_neg h10, if_neg (show ¬ lN n < (1 : Int64) from fun q => by have := (pk_lLT (b := 1) (by omega) (by decide)).mp q; omega), if_neg (show ¬ (12960000 : Int64) ≤ lN n from fun q => by have := (pk_lLE (a := 12960000) (by decide) (by omega)).mp q; omega)]
    rcases q_dsh q with ⟨hc, hy⟩ | ⟨m, hm1, hm2, rfl, hy⟩
    · refine ⟨-2, xX, xY, xP, xl, mw, ml, mp, mq, mX, mY, ?_, by rw [hy]; rfl, h⟩
      by_cases h1 : q < 1
      · rw [if_pos h1]
      · rw [if_neg h1, if_neg]
        have h2 := hc.resolve_left h1
        rw [Int64.le_iff_toInt_le] at h2
        rw [Int64.lt_iff_toInt_lt]
        omega
    · rw [hy, Option.bind_some, if_neg h10, if_neg (show ¬ lN m < (1 : Int64) from fun q => by have := (pk_lLT (b := 1) (by omega) (by decide)).mp q; omega), if_pos (show lN m < (12960000 : Int64) from (pk_lLT (b := 12960000) (by omega) (by decide)).mpr (by omega))]
      obtain ⟨a, ha, la1, la2, la3⟩ := top_dig4 hn1 hn2
      obtain ⟨b, hb, lb1, lb2, lb3⟩ := top_dig4 hm1 hm2
      obtain ⟨g', z1, z2⟩ := ro_skip (n := n) (m := m) (by omega) (by omega) (a + 1) (fun c hc => la3 c (by omega)) (fun (m_lines_141 : Int32) (m_product_141 : Nat → Int32) (m_place_141 : Nat → Int32) (m_ofX_141 : Nat → Int32) (m_ofY_141 : Nat → Int32) => (some (m_lines_141, (1 : Int32), m_lines_141, m_product_141, m_place_141, m_ofX_141, m_ofY_141))) (0 : Int32) mp mq mX mY (3 - a) kN (by omega) (by have : kN = 5000 := rfl; omega)
      rw [show nI (a + 1 + (3 - a)) - 1 = (3 : Int32) from by rw [show a + 1 + (3 - a) = 4 by omega]; decide] at z2
      obtain ⟨k', X1, X2, X3, M1, M2, M3, M4, g1, g2, g3, g4, g5, g6⟩ := q_trows (n := n) (m := m) (by omega) (by omega) hb lb1 lb2 lb3
        (fun (w_ofX_64 : Nat → Int32) (w_ofY_64 : Nat → Int32) (w_places_64 : Nat → Int32) (w_lines_64 : Int32) => (some (w_ofX_64, w_ofY_64, w_places_64, w_lines_64)))
        (fun (m_lines_141 : Int32) (m_product_141 : Nat → Int32) (m_place_141 : Nat → Int32) (m_ofX_141 : Nat → Int32) (m_ofY_141 : Nat → Int32) => (some (m_lines_141, (1 : Int32), m_lines_141, m_product_141, m_place_141, m_ofX_141, m_ofY_141))) (a + 1) 0 kN g' xX xY xP mp mq mX mY (by omega) (by omega) (by have : kN = 5000 := rfl; omega) z1 (fun i hi => absurd hi (by omega))
      have hk1 := g3 ⟨a, rfl, la2⟩
      refine ⟨nI k', X1, X2, X3, nI k', 1, nI k', M1, M2, M3, M4, ?_, ?_, ⟨k', g2, rfl, rfl, ⟨fun q => absurd q h10, fun q => by omega⟩, g4⟩⟩
      · rw [mX5_begin, q_length (by omega), Option.bind_some, md_letP, la1, show (0 : Int32) = nI 0 from rfl, g5, Option.bind_some, mX5_lineCount, Option.bind_some]
      · rw [z2]; exact g6
