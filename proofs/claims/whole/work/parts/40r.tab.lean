/-! TABLETS: tablet, press, cell, told -/
def cellRel (t r : Nat) (cells six m_cell : Nat → Int32) : Prop := ∀ c, c < 24 → ∃ v, v ≤ 12959999 ∧ cells c = nI v ∧ m_cell (24 * t + c) = nI v ∧ six c = nI (sx v) ∧ (3 * r ≤ c → v = 0)
def tabRel (t : Nat) (cells six : Nat → Int32) (rows : Int32) (m_rows m_cell : Nat → Int32) : Prop := ∃ r, 1 ≤ r ∧ r ≤ 8 ∧ rows = nI r ∧ m_rows t = nI r ∧ cellRel t r cells six m_cell
/-- nothing but tablet t has changed -/
def frm (t : Nat) (f g : Nat → Int32) : Prop := ∀ j, (j < 24 * t ∨ 24 * t + 24 ≤ j) → g j = f j
theorem frm_refl (t : Nat) (f : Nat → Int32) : frm t f f := fun _ _ => rfl
theorem frm_trans {t : Nat} {f g h : Nat → Int32} (a : frm t f g) (b : frm t g h) : frm t f h := fun j hj => (b j hj).trans (a j hj)
theorem frm_upd {t c : Nat} (hc : c < 24) (f : Nat → Int32) (x : Int32) : frm t f (upd f (24 * t + c) x) := fun j hj => pk_un (by omega)
theorem tab_other {t u : Nat} (h : u ≠ t) {cells six : Nat → Int32} {rows : Int32} {m_rows m_cell m_rows' m_cell' : Nat → Int32} (hr : m_rows' u = m_rows u) (hf : frm t m_cell m_cell') (q : tabRel u cells six rows m_rows m_cell) : tabRel u cells six rows m_rows' m_cell' := by
  obtain ⟨r, h1, h2, h3, h4, h5⟩ := q
  refine ⟨r, h1, h2, h3, hr.trans h4, fun c hc => ?_⟩
  obtain ⟨v, a1, a2, a3, a4, a5⟩ := h5 c hc
  exact ⟨v, a1, a2, (hf _ (by omega)).trans a3, a4, a5⟩
theorem cell_upd {t r : Nat} {cells six m_cell : Nat → Int32} (h : cellRel t r cells six m_cell) {c v : Nat} (hc : c < 3 * r) (hv : v ≤ 12959999) : cellRel t r (upd cells c (nI v)) (upd six c (nI (sx v))) (upd m_cell (24 * t + c) (nI v)) := by
  intro d hd
  by_cases e : d = c
  · subst e
    exact ⟨v, hv, pk_us, pk_us, pk_us, fun q => by omega⟩
  · obtain ⟨w, a1, a2, a3, a4, a5⟩ := h d hd
    exact ⟨w, a1, by rw [pk_un e]; exact a2, by rw [pk_un (by omega)]; exact a3, by rw [pk_un e]; exact a4, a5⟩
theorem q_inN {a n b : Nat} (h1 : a ≤ n) (h2 : n ≤ b) (hb : b < 2 ^ 31) : mX7_in (Int32.toInt64 (nI n)) (lN a) (lN b) = some 1 := by
  rw [nI_l (by omega), q_in, if_pos ⟨(pk_lLE (by omega) (by omega)).mpr h1, (pk_lLE (by omega) (by omega)).mpr h2⟩]
theorem q_inX {x : Int32} {a b : Nat} (hb : b < 2 ^ 31) (hab : a ≤ b) (h : x < nI a ∨ nI b < x) : mX7_in (Int32.toInt64 x) (lN a) (lN b) = some 0 := by
  rcases q_inR x hab hb with ⟨hz, -⟩ | ⟨j, h1, h2, rfl, -⟩
  · exact hz
  · exfalso
    rcases h with h | h
    · have := (nI_ltI (by omega) (by omega)).mp h; omega
    · have := (nI_ltI (by omega) (by omega)).mp h; omega
theorem q_isT {t : Nat} (ht : t < 4) : mX7_isTablet (nI t) = some 1 := by
  rw [mX7_isTablet, show (0 : Int64) = lN 0 from rfl, show (3 : Int64) = lN 3 from rfl, q_inN (by omega) (by omega) (by decide)]
  rfl
theorem q_isTo {x : Int32} (h : x < 0 ∨ nI 4 ≤ x) : mX7_isTablet x = some 0 := by
  rw [mX7_isTablet, show (0 : Int64) = lN 0 from rfl, show (3 : Int64) = lN 3 from rfl, q_inX (by decide) (by decide) (h.imp id (fun q => ?_))]
  · rfl
  · rw [Int32.le_iff_toInt_le, nI_toInt (by decide)] at q
    rw [Int32.lt_iff_toInt_lt, nI_toInt (by decide)]
    omega
theorem q_isRow {r t : Nat} (hr : 1 ≤ r) (hr8 : r ≤ 8) (ht : t < 4) {m_rows : Nat → Int32} (hm : m_rows t = nI r) (row : Int32) : ((row < 0 ∨ nI r ≤ row) ∧ mX7_isRow m_rows (nI t) row = some 0) ∨ ∃ i, i < r ∧ row = nI i ∧ mX7_isRow m_rows (nI t) row = some 1 := by
  rw [mX7_isRow, q_isT ht, Option.bind_some, if_neg h10, if_neg (nI_in ht (by decide)), nI_clamp (by omega), hm, show nI r - (1 : Int32) = nI (r - 1) from pk_sub (a := r) (b := 1) hr, show (nI (r - 1)).toInt64 = lN (r - 1) from nI_l (by omega)]
  rcases q_inI row (n := r - 1) (by omega) with ⟨hz, hc, -⟩ | ⟨j, hj, rfl, hz⟩
  · left
    rw [show r - 1 + 1 = r by omega] at hc
    exact ⟨hc, by rw [hz]; rfl⟩
  · right
    exact ⟨j, by omega, rfl, by rw [hz]; rfl⟩
theorem q_cell {r t : Nat} (hr : 1 ≤ r) (hr8 : r ≤ 8) (ht : t < 4) {m_rows : Nat → Int32} (hm : m_rows t = nI r) (row col : Int32) : (mX3_hasCell (nI r) row col = some 0 ∧ mX7_isCell m_rows (nI t) row col = some 0) ∨ ∃ i j, i < r ∧ j < 3 ∧ row = nI i ∧ col = nI j ∧ mX3_hasCell (nI r) row col = some 1 ∧ mX7_isCell m_rows (nI t) row col = some 1 := by
  rw [mX3_hasCell, mX7_isCell]
  rcases q_isRow hr hr8 ht hm row with ⟨hc, hz⟩ | ⟨i, hi, rfl, hz⟩
  · left
    refine ⟨?_, by rw [hz]; rfl⟩
    by_cases h : row < 0
    · rw [if_pos h]
    · rw [if_neg h, if_pos (hc.resolve_left h)]
  · rw [hz, Option.bind_some, if_neg h10, if_neg (nI_pos (by omega)), if_neg (show ¬ nI r ≤ nI i from fun q => by have := (nI_leI (by omega) (by omega)).mp q; omega), show (2 : Int64) = lN 2 from rfl]
    rcases q_inI col (n := 2) (by omega) with ⟨hy, hc, -⟩ | ⟨j, hj, rfl, hy⟩
    · left
      refine ⟨?_, by rw [hy]; rfl⟩
      by_cases h : col < 0
      · rw [if_pos h]
      · rw [if_neg h, if_pos (show (3 : Int32) ≤ col from hc.resolve_left h)]
    · right
      refine ⟨i, j, hi, by omega, rfl, rfl, ?_, by rw [hy]; rfl⟩
      rw [if_neg (nI_pos (by omega)), if_neg (show ¬ (3 : Int32) ≤ nI j from fun q => by have := (nI_leI (a := 3) (by decide) (by omega)).mp q; omega)]
theorem ix3 {i j : Nat} : nI i * (3 : Int32) + nI j = nI (3 * i + j) := by
  rw [show nI i * (3 : Int32) = nI (i * 3) from pk_mul i 3, nI_add, Nat.mul_comm]
theorem q_held {cells : Nat → Int32} {i j : Nat} (hi : i < 8) (hj : j < 3) : mX3_held cells (nI i) (nI j) = some (cells (3 * i + j)) := by
  rw [mX3_held, md_letP, ix3, if_neg (nI_pos (by omega)), if_neg (show ¬ (24 : Int32) ≤ nI (3 * i + j) from fun q => by have := (nI_leI (a := 24) (by decide) (by omega)).mp q; omega), if_neg (nI_in (N := 24) (by omega) (by decide)), nI_clamp (by omega)]
theorem q_heldSixty {cells : Nat → Int32} {i j : Nat} (hi : i < 8) (hj : j < 3) : mX3_heldSixty cells (nI i) (nI j) = some (cells (3 * i + j)) := by
  rw [mX3_heldSixty, md_letP, ix3, if_neg (nI_pos (by omega)), if_neg (show ¬ (24 : Int32) ≤ nI (3 * i + j) from fun q => by have := (nI_leI (a := 24) (by decide) (by omega)).mp q; omega), if_neg (nI_in (N := 24) (by omega) (by decide)), nI_clamp (by omega)]
theorem hold_step (cells six : Nat → Int32) (p1 p2 p3 : Int32) : mX3_hold cells six p1 p2 p3 = (if p1 * (3 : Int32) + p2 < 0 then some (cells, six) else if (24 : Int32) ≤ p1 * (3 : Int32) + p2 then some (cells, six) else if p1 * (3 : Int32) + p2 < 0 ∨ 24 ≤ (p1 * (3 : Int32) + p2).toNatClampNeg then none else if p3 = 0 then some (upd cells (p1 * (3 : Int32) + p2).toNatClampNeg p3, upd six (p1 * (3 : Int32) + p2).toNatClampNeg 0) else Option.bind (mX1_strip (Int32.toInt64 p3)) (fun u7 => some (upd cells (p1 * (3 : Int32) + p2).toNatClampNeg p3, upd six (p1 * (3 : Int32) + p2).toNatClampNeg (Int64.toInt32 u7)))) := by
  rw [mX3_hold]
  simp only [md_jnP, md_letP]
  by_cases h : p1 * (3 : Int32) + p2 < 0 ∨ 24 ≤ (p1 * (3 : Int32) + p2).toNatClampNeg
  · simp only [if_pos h]
  · simp only [if_neg h]
theorem q_hold {cells six : Nat → Int32} {i j v : Nat} (hi : i < 8) (hj : j < 3) (hv : v ≤ 12959999) : mX3_hold cells six (nI i) (nI j) (nI v) = some (upd cells (3 * i + j) (nI v), upd six (3 * i + j) (nI (sx v))) := by
  rw [hold_step, ix3, if_neg (nI_pos (by omega)), if_neg (show ¬ (24 : Int32) ≤ nI (3 * i + j) from fun q => by have := (nI_leI (a := 24) (by decide) (by omega)).mp q; omega), if_neg (nI_in (N := 24) (by omega) (by decide)), nI_clamp (by omega)]
  by_cases h : v = 0
  · subst h
    rw [if_pos nI_0, sx0, nI_0]
  · rw [if_neg (nI_ne0 (by omega) (by omega)), nI_l (by omega), q_strip (by omega), Option.bind_some, lN_i]
theorem q_at (t i j : Nat) : mX7_at (nI t) (nI i) (nI j) = some (nI (24 * t + (3 * i + j))) := by
  rw [mX7_at, show (24 : Int32) * nI t = nI (24 * t) from pk_mul 24 t, show (3 : Int32) * nI i = nI (3 * i) from pk_mul 3 i, nI_add, nI_add, Nat.add_assoc]
/-- cell -/
theorem op_cell {t : Nat} (ht : t < 4) {cells six m_rows m_cell : Nat → Int32} {rows : Int32} (h : tabRel t cells six rows m_rows m_cell) (row col : Int32) : ∃ r, mX6_cell_i cells rows (nI t) row col = some r ∧ mX7_cell m_rows m_cell (nI t) row col = some r := by
  obtain ⟨r, h1, h2, rfl, h4, h5⟩ := h
  rw [mX6_cell_i, mX7_cell]
  rcases q_cell h1 h2 ht h4 row col with ⟨a, b⟩ | ⟨i, j, hi, hj, rfl, rfl, a, b⟩
  · rw [a, b]; exact ⟨_, rfl, rfl⟩
  · obtain ⟨v, -, c1, c2, -, -⟩ := h5 (3 * i + j) (by omega)
    rw [a, b, Option.bind_some, Option.bind_some, if_neg h10, if_neg h10, q_held (by omega) hj, Option.bind_some, q_at, Option.bind_some, if_neg (nI_in (N := 96) (by omega) (by decide)), nI_clamp (by omega), c1, c2]
    exact ⟨_, rfl, rfl⟩
theorem op_cell_o {x : Int32} (hx : x < 0 ∨ nI 4 ≤ x) (m_rows m_cell : Nat → Int32) (row col : Int32) : mX7_cell m_rows m_cell x row col = some (-1) := by
  rw [mX7_cell, mX7_isCell, mX7_isRow, q_isTo hx]; rfl
/-- press -/
theorem op_press {t : Nat} (ht : t < 4) {cells six m_rows m_cell : Nat → Int32} {rows : Int32} (h : tabRel t cells six rows m_rows m_cell) (row col v : Int32) : ∃ r cells' six' m_cell', mX6_press_i cells six rows (nI t) row col v = some (r, cells', six') ∧ mX7_press m_rows m_cell (nI t) row col v = some (r, m_cell') ∧ tabRel t cells' six' rows m_rows m_cell' ∧ frm t m_cell m_cell' := by
  have h' := h
  obtain ⟨r, h1, h2, rfl, h4, h5⟩ := h
  rw [mX6_press_i, mX7_press]
  rcases q_cell h1 h2 ht h4 row col with ⟨a, b⟩ | ⟨i, j, hi, hj, rfl, rfl, a, b⟩
  · rw [a, b]; exact ⟨_, _, _, _, rfl, rfl, h', frm_refl _ _⟩
  · obtain ⟨w, -, c1, c2, -, -⟩ := h5 (3 * i + j) (by omega)
    rw [a, b, Option.bind_some, Option.bind_some, if_neg h10, if_neg h10, show (12959999 : Int64) = lN 12959999 from rfl]
    rcases q_inI v (n := 12959999) (by decide) with ⟨hz, hc, -⟩ | ⟨n, hn, rfl, hz⟩
    · rw [hz, Option.bind_some, if_pos (show (0 : Int32) = 0 from rfl)]
      refine ⟨-2, cells, six, m_cell, ?_, rfl, h', frm_refl _ _⟩
      by_cases h0 : v < 0
      · rw [if_pos h0]
      · rw [if_neg h0, if_neg]
        have h6 := hc.resolve_left h0
        rw [Int32.le_iff_toInt_le, nI_toInt (by decide)] at h6
        rw [Int32.le_iff_toInt_le]
        have : (12959999 : Int32).toInt = 12959999 := by decide
        omega
    · have hat := nI_in (c := 24 * t + (3 * i + j)) (N := 96) (by omega) (by decide)
      rw [hz, Option.bind_some, if_neg h10, if_neg (nI_pos (by omega)), if_pos (show nI n ≤ (12959999 : Int32) from (nI_leI (b := 12959999) (by omega) (by decide)).mpr hn), q_held (by omega) hj, Option.bind_some, q_hold (by omega) hj hn, Option.bind_some, q_at, Option.bind_some, if_neg hat, md_letP, Option.bind_some, if_neg hat, md_letP, nI_clamp (by omega), c1, c2]
      exact ⟨_, _, _, _, rfl, rfl, ⟨r, h1, h2, rfl, h4, cell_upd h5 (by omega) hn⟩, frm_upd (by omega) _ _⟩
theorem op_press_o {x : Int32} (hx : x < 0 ∨ nI 4 ≤ x) (m_rows m_cell : Nat → Int32) (row col v : Int32) : mX7_press m_rows m_cell x row col v = some (-1, m_cell) := by
  rw [mX7_press, mX7_isCell, mX7_isRow, q_isTo hx]; rfl
theorem sm_step (kE : (Nat → Int32) → (Nat → Int32) → Option ((Nat → Int32) × (Nat → Int32) × Int32)) (n : Nat) (x2 : Int32) (a b : Nat → Int32) : mlX3_smooth_7 kE (n + 1) x2 a b = (if (24 : Int32) ≤ x2 then kE a b else if x2 < 0 ∨ 24 ≤ x2.toNatClampNeg then none else mlX3_smooth_7 kE n (x2 + 1) (upd a x2.toNatClampNeg 0) (upd b x2.toNatClampNeg 0)) := by
  rw [mlX3_smooth_7]
  simp only [md_letP]
  by_cases h : x2 < 0 ∨ 24 ≤ x2.toNatClampNeg
  · simp only [if_pos h]
  · simp only [if_neg h]
theorem q_sm_loop (kE : (Nat → Int32) → (Nat → Int32) → Option ((Nat → Int32) × (Nat → Int32) × Int32)) : ∀ (d i f : Nat) (a b : Nat → Int32), i + d = 24 → d < f → (∀ c, c < i → a c = 0 ∧ b c = 0) → ∃ a' b', mlX3_smooth_7 kE f (nI i) a b = kE a' b' ∧ ∀ c, c < 24 → a' c = 0 ∧ b' c = 0 := by
  intro d
  induction d with
  | zero =>
    intro i f a b hi hf h
    obtain ⟨f, rfl⟩ : ∃ z, f = z + 1 := ⟨f - 1, by omega⟩
    rw [sm_step, if_pos (show (24 : Int32) ≤ nI i from (nI_leI (a := 24) (by decide) (by omega)).mpr (by omega))]
    exact ⟨a, b, rfl, fun c hc => h c (by omega)⟩
  | succ d ih =>
    intro i f a b hi hf h
    obtain ⟨f, rfl⟩ : ∃ z, f = z + 1 := ⟨f - 1, by omega⟩
    rw [sm_step, if_neg (show ¬ (24 : Int32) ≤ nI i from fun q => by have := (nI_leI (a := 24) (by decide) (by omega)).mp q; omega), if_neg (nI_in (N := 24) (by omega) (by decide)), nI_clamp (by omega), show nI i + (1 : Int32) = nI (i + 1) from nI_1 i]
    refine ih (i + 1) f _ _ (by omega) (by omega) (fun c hc => ?_)
    by_cases e : c = i
    · subst e; exact ⟨pk_us, pk_us⟩
    · rw [pk_un e, pk_un e]; exact h c (by omega)
theorem q_smooth (a b : Nat → Int32) (p : Int32) : ∃ a' b', mX3_smooth a b p = some (a', b', p) ∧ ∀ c, c < 24 → a' c = 0 ∧ b' c = 0 :=
  q_sm_loop _ 24 0 kN a b rfl (by decide) (fun c hc => absurd hc (by omega))
theorem q_tb_loop {t : Nat} (ht : t < 4) (kE : (Nat → Int32) → Option (Int32 × (Nat → Int32) × (Nat → Int32))) : ∀ (d i f : Nat) (a : Nat → Int32), i + d = 24 → d < f → (∀ c, c < i → a (24 * t + c) = 0) → ∃ a', mlX7_tablet_33 (nI t) kE f (nI i) a = kE a' ∧ (∀ c, c < 24 → a' (24 * t + c) = 0) ∧ frm t a a' := by
  intro d
  induction d with
  | zero =>
    intro i f a hi hf h
    obtain ⟨f, rfl⟩ : ∃ z, f = z + 1 := ⟨f - 1, by omega⟩
    rw [mlX7_tablet_33, if_pos (show (24 : Int32) ≤ nI i from (nI_leI (a := 24) (by decide) (by omega)).mpr (by omega))]
    exact ⟨a, rfl, fun c hc => h c (by omega), frm_refl _ _⟩
  | succ d ih =>
    intro i f a hi hf h
    obtain ⟨f, rfl⟩ : ∃ z, f = z + 1 := ⟨f - 1, by omega⟩
    rw [mlX7_tablet_33, if_neg (show ¬ (24 : Int32) ≤ nI i from fun q => by have := (nI_leI (a := 24) (by decide) (by omega)).mp q; omega), show (24 : Int32) * nI t = nI (24 * t) from pk_mul 24 t, nI_add, if_neg (nI_in (N := 96) (by omega) (by decide)), md_letP, md_letP, nI_clamp (by omega), show nI i + (1 : Int32) = nI (i + 1) from nI_1 i]
    obtain ⟨a', e1, e2, e3⟩ := ih (i + 1) f (upd a (24 * t + i) 0) (by omega) (by omega) (fun c hc => by
      by_cases e : c = i
      · subst e; exact pk_us
      · rw [pk_un (by omega)]; exact h c (by omega))
    exact ⟨a', e1, e2, frm_trans (frm_upd (by omega) _ _) e3⟩
/-- tablet -/
theorem op_tablet {t : Nat} (ht : t < 4) {cells six m_rows m_cell : Nat → Int32} {rows : Int32} (h : tabRel t cells six rows m_rows m_cell) (n : Int32) : ∃ r cells' six' rows' m_rows' m_cell', mX6_tablet_i cells six rows (nI t) n = some (r, cells', six', rows') ∧ mX7_tablet m_rows m_cell (nI t) n = some (r, m_rows', m_cell') ∧ tabRel t cells' six' rows' m_rows' m_cell' ∧ frm t m_cell m_cell' ∧ ∀ u, u ≠ t → m_rows' u = m_rows u := by
  rw [mX6_tablet_i, mX7_tablet, q_isT ht, Option.bind_some, if_neg h10, show (1 : Int64) = lN 1 from rfl, show (8 : Int64) = lN 8 from rfl]
  rcases q_inR n (a := 1) (b := 8) (by decide) (by decide) with ⟨hz, hc⟩ | ⟨j, h1, h2, rfl, hz⟩
  · rw [hz, Option.bind_some, if_pos (show (0 : Int32) = 0 from rfl)]
    refine ⟨-2, cells, six, rows, m_rows, m_cell, ?_, rfl, h, frm_refl _ _, fun _ _ => rfl⟩
    by_cases h0 : n < 1
    · rw [if_pos h0]
    · rw [if_neg h0, if_neg (ile_nlt (show (8 : Int32) < n from hc.resolve_left h0))]
  · rw [hz, Option.bind_some, if_neg h10, if_neg (show ¬ nI j < (1 : Int32) from ilt_nlt ((nI_leI (a := 1) (by decide) (by omega)).mpr h1)), if_pos (show nI j ≤ (8 : Int32) from (nI_leI (b := 8) (by omega) (by decide)).mpr h2), if_neg (nI_in ht (by decide)), md_letP, nI_clamp (by omega)]
    obtain ⟨a', b', e1, e2⟩ := q_smooth cells six (nI j)
    obtain ⟨m', e3, e4, e5⟩ := q_tb_loop ht (fun (m_cell_57 : Nat → Int32) => (some ((1 : Int32), upd m_rows t (nI j), m_cell_57))) 24 0 kN m_cell rfl (by decide) (fun c hc => absurd hc (by omega))
    rw [e1, Option.bind_some]
    refine ⟨1, a', b', nI j, upd m_rows t (nI j), m', rfl, e3, ⟨j, h1, h2, rfl, pk_us, fun c hc => ⟨0, by decide, (e2 c hc).1, e4 c hc, ?_, fun _ => rfl⟩⟩, e5, fun u hu => pk_un hu⟩
    rw [sx0]; exact (e2 c hc).2
theorem op_tablet_o {x : Int32} (hx : x < 0 ∨ nI 4 ≤ x) (m_rows m_cell : Nat → Int32) (n : Int32) : mX7_tablet m_rows m_cell x n = some (-1, m_rows, m_cell) := by
  rw [mX7_tablet, q_isTo hx]; rfl
theorem bc_step (cells : Nat → Int32) (rows : Int32) (kE : Int32 → Option Int32) (n : Nat) (x1 x2 : Int32) : mlX3_brokenCells_4 cells rows kE (n + 1) x1 x2 = (if rows * (3 : Int32) ≤ x2 then kE x1 else if (24 : Int32) ≤ x2 then kE x1 else if x2 < 0 ∨ 24 ≤ x2.toNatClampNeg then none else mlX3_brokenCells_4 cells rows kE n (x1 + (if cells x2.toNatClampNeg = 0 then 1 else 0)) (x2 + 1)) := by
  rw [mlX3_brokenCells_4]
  simp only [md_jnP, md_letP]
  by_cases h : cells x2.toNatClampNeg = 0
  · simp only [if_pos h]
  · simp only [if_neg h, Int32.add_zero]
theorem tl_step (x1 : Int32) (m_rows m_cell : Nat → Int32) (kE : Int32 → Option Int32) (n : Nat) (x2 x3 : Int32) : mlX7_told_41 x1 m_rows m_cell kE (n + 1) x2 x3 = (if (x1 - (6 : Int32)) < 0 ∨ 4 ≤ (x1 - (6 : Int32)).toNatClampNeg then none else if (3 : Int32) * m_rows (x1 - (6 : Int32)).toNatClampNeg ≤ x3 then kE x2 else if ((24 : Int32) * (x1 - (6 : Int32)) + x3) < 0 ∨ 96 ≤ ((24 : Int32) * (x1 - (6 : Int32)) + x3).toNatClampNeg then none else mlX7_told_41 x1 m_rows m_cell kE n (x2 + (if m_cell ((24 : Int32) * (x1 - (6 : Int32)) + x3).toNatClampNeg = 0 then 1 else 0)) (x3 + 1)) := by
  rw [mlX7_told_41]
  simp only [md_jnP, md_letP]
  by_cases h : m_cell ((24 : Int32) * (x1 - (6 : Int32)) + x3).toNatClampNeg = 0
  · simp only [if_pos h]
  · simp only [if_neg h]
theorem q_told_loop {t r : Nat} (ht : t < 4) (hr8 : r ≤ 8) {cells six m_rows m_cell : Nat → Int32} (hm : m_rows t = nI r) (h : cellRel t r cells six m_cell) (kE : Int32 → Option Int32) : ∀ (d i f g : Nat) (x : Int32), i + d = 3 * r → d < f → d < g → ∃ y, mlX3_brokenCells_4 cells (nI r) kE f x (nI i) = kE y ∧ mlX7_told_41 (nI (6 + t)) m_rows m_cell kE g x (nI i) = kE y := by
  intro d
  induction d with
  | zero =>
    intro i f g x hi hf hg
    obtain ⟨f, rfl⟩ : ∃ z, f = z + 1 := ⟨f - 1, by omega⟩
    obtain ⟨g, rfl⟩ : ∃ z, g = z + 1 := ⟨g - 1, by omega⟩
    rw [bc_step, tl_step, show nI r * (3 : Int32) = nI (r * 3) from pk_mul r 3, show nI (6 + t) - (6 : Int32) = nI t from by rw [show (6 : Int32) = nI 6 from rfl, pk_sub (by omega), Nat.add_sub_cancel_left], if_pos ((nI_leI (by omega) (by omega)).mpr (by omega)), if_neg (nI_in ht (by decide)), nI_clamp (by omega), hm, show (3 : Int32) * nI r = nI (3 * r) from pk_mul 3 r, if_pos ((nI_leI (by omega) (by omega)).mpr (by omega))]
    exact ⟨x, rfl, rfl⟩
  | succ d ih =>
    intro i f g x hi hf hg
    obtain ⟨f, rfl⟩ : ∃ z, f = z + 1 := ⟨f - 1, by omega⟩
    obtain ⟨g, rfl⟩ : ∃ z, g = z + 1 := ⟨g - 1, by omega⟩
    obtain ⟨v, -, c1, c2, -, -⟩ := h i (by omega)
    rw [bc_step, tl_step, show nI r * (3 : Int32) = nI (r * 3) from pk_mul r 3, show nI (6 + t) - (6 : Int32) = nI t from by rw [show (6 : Int32) = nI 6 from rfl, pk_sub (by omega), Nat.add_sub_cancel_left], if_neg (show ¬ nI (r * 3) ≤ nI i from fun q => by have := (nI_leI (by omega) (by omega)).mp q; omega), if_neg (show ¬ (24 : Int32) ≤ nI i from fun q => by have := (nI_leI (a := 24) (by decide) (by omega)).mp q; omega), if_neg (nI_in (N := 24) (by omega) (by decide)), if_neg (nI_in ht (by decide)), nI_clamp (n := t) (by omega), hm, show (3 : Int32) * nI r = nI (3 * r) from pk_mul 3 r, if_neg (show ¬ nI (3 * r) ≤ nI i from fun q => by have := (nI_leI (by omega) (by omega)).mp q; omega), show (24 : Int32) * nI t = nI (24 * t) from pk_mul 24 t, nI_add, if_neg (nI_in (N := 96) (by omega) (by decide)), nI_clamp (n := i) (by omega), nI_clamp (n := 24 * t + i) (by omega), c1, c2, show nI i + (1 : Int32) = nI (i + 1) from nI_1 i]
    exact ih (i + 1) f g _ (by omega) (by omega) (by omega)
/-- told: of a tablet -/
theorem op_told_t {t : Nat} (ht : t < 4) {cells six m_rows m_cell : Nat → Int32} {rows xc xl mc ml : Int32} (h : tabRel t cells six rows m_rows m_cell) {w : Nat} (hw : w = 2 + t ∨ w = 6 + t) : ∃ r, mX6_told_i xc xl cells rows (nI w) = some r ∧ mX7_told ml mc m_rows m_cell (nI w) = some r := by
  obtain ⟨r, h1, h2, rfl, h4, h5⟩ := h
  rw [mX6_told_i, mX7_told, if_neg (nI_pos (by omega)), if_pos (show nI w < (10 : Int32) from (nI_ltI (b := 10) (by omega) (by decide)).mpr (by omega)), if_neg (nI_ne0 (by omega) (by omega)), if_neg (show ¬ nI w = (1 : Int32) from fun q => by have := (nI_eq (b := 1) (by omega) (by decide)).mp q; omega), show (2 : Int64) = lN 2 from rfl, show (5 : Int64) = lN 5 from rfl, show (6 : Int64) = lN 6 from rfl, show (9 : Int64) = lN 9 from rfl]
  rcases hw with rfl | rfl
  · rw [q_inN (by omega) (by omega) (by decide), Option.bind_some, if_neg h10, if_neg (show ¬ (6 : Int32) ≤ nI (2 + t) from fun q => by have := (nI_leI (a := 6) (by decide) (by omega)).mp q; omega), mX3_rowCount, Option.bind_some, show nI (2 + t) - (2 : Int32) = nI t from by rw [show (2 : Int32) = nI 2 from rfl, pk_sub (by omega), Nat.add_sub_cancel_left], if_neg (nI_in ht (by decide)), nI_clamp (by omega), h4]
    exact ⟨_, rfl, rfl⟩
  · rw [q_inX (by decide) (by decide) (.inr ((nI_ltI (by decide) (by omega)).mpr (by omega))), Option.bind_some, if_pos (show (0 : Int32) = 0 from rfl), q_inN (by omega) (by omega) (by decide), Option.bind_some, if_neg h10, if_pos (show (6 : Int32) ≤ nI (6 + t) from (nI_leI (a := 6) (by decide) (by omega)).mpr (by omega)), bind_id]
    obtain ⟨y, e1, e2⟩ := q_told_loop ht h2 h4 h5 (fun y => some y) (3 * r) 0 kN kN 0 (by omega) (by have : kN = 5000 := rfl; omega) (by have : kN = 5000 := rfl; omega)
    exact ⟨y, e1, e2⟩
/-- told: of the rest -/
theorem op_told_n {xc xl mc ml : Int32} (hl : xl = ml) (hc : xc = mc) (m_rows m_cell : Nat → Int32) {w : Int32} (hw : w < 2 ∨ (10 : Int32) ≤ w) : ∃ r, mX6_told_n xc xl w = some r ∧ mX7_told ml mc m_rows m_cell w = some r := by
  subst hl hc
  have e0 : (0 : Int32).toInt = 0 := by decide
  have e1 : (1 : Int32).toInt = 1 := by decide
  have e2 : (2 : Int32).toInt = 2 := by decide
  have e10 : (10 : Int32).toInt = 10 := by decide
  have k2 : (nI 2).toInt = 2 := nI_toInt (by decide)
  have k5 : (nI 5).toInt = 5 := nI_toInt (by decide)
  have k6 : (nI 6).toInt = 6 := nI_toInt (by decide)
  have k9 : (nI 9).toInt = 9 := nI_toInt (by decide)
  rw [Int32.lt_iff_toInt_lt, Int32.le_iff_toInt_le, e2, e10] at hw
  rw [mX6_told_n, mX7_told, show (2 : Int64) = lN 2 from rfl, show (5 : Int64) = lN 5 from rfl, show (6 : Int64) = lN 6 from rfl, show (9 : Int64) = lN 9 from rfl, q_inX (by decide) (by decide) (by rw [Int32.lt_iff_toInt_lt, Int32.lt_iff_toInt_lt, k2, k5]; omega), Option.bind_some, if_pos (show (0 : Int32) = 0 from rfl), q_inX (by decide) (by decide) (by rw [Int32.lt_iff_toInt_lt, Int32.lt_iff_toInt_lt, k6, k9]; omega), Option.bind_some, if_pos (show (0 : Int32) = 0 from rfl), mX5_lineCount, Option.bind_some]
  by_cases w0 : w = 0
  · subst w0
    exact ⟨_, rfl, rfl⟩
  · by_cases w1 : w = 1
    · subst w1
      exact ⟨_, rfl, rfl⟩
    · have n0 : w.toInt ≠ 0 := fun q => w0 (Int32.toInt_inj.mp (q.trans e0.symm))
      have n1 : w.toInt ≠ 1 := fun q => w1 (Int32.toInt_inj.mp (q.trans e1.symm))
      rw [if_neg w0, if_neg w1, if_neg w0, if_neg w1]
      refine ⟨-2, ?_, rfl⟩
      by_cases hn : w < 0
      · rw [if_pos hn]
      · rw [if_neg hn, if_neg]
        rw [Int32.lt_iff_toInt_lt] at hn
        rw [Int32.lt_iff_toInt_lt]
        omega
