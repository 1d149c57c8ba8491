/-! TRIPLES -/
def agr (v n : Nat) : Int32 := if v = 0 ∨ sx v = sx n then 1 else 0
theorem agr_01 (v n : Nat) : agr v n = 0 ∨ agr v n = 1 := by
  rw [agr]
  by_cases h : v = 0 ∨ sx v = sx n
  · rw [if_pos h]; exact .inr rfl
  · rw [if_neg h]; exact .inl rfl
theorem q_mayBe {six : Nat → Int32} {i j v n : Nat} (hi : i < 8) (hj : j < 3) (hs : six (3 * i + j) = nI (sx v)) (hv : v ≤ 12959999) (hn : n < 2 ^ 31) : mX3_mayBe six (nI i) (nI j) (nI n) = some (agr v n) := by
  have h1 := sx_le v
  have h2 := sx_le n
  rw [mX3_mayBe, q_heldSixty hi hj, Option.bind_some, hs, agr]
  by_cases h0 : v = 0
  · subst h0
    rw [sx0, if_pos nI_0, if_pos (.inl rfl)]
  · have h3 := sx_pos (n := v) (by omega)
    rw [if_neg (nI_ne0 (by omega) (by omega)), nI_l (by omega), q_strip (by omega), Option.bind_some, nI_l (by omega)]
    by_cases h4 : sx v = sx n
    · rw [if_pos (by rw [h4]), if_pos (.inr h4)]
    · rw [if_neg (fun q => h4 ((pk_lEQ (by omega) (by omega)).mp q)), if_neg (fun q => q.elim h0 h4)]
theorem q_agree {v n : Nat} (hv : v ≤ 12959999) (h1 : 1 ≤ n) (hn : n < 2 ^ 31) : mX7_agree (nI v) (nI n) = some (agr v n) := by
  have h3 := sx_le v
  have h2 := sx_le n
  rw [mX7_agree, agr]
  by_cases h0 : v = 0
  · subst h0
    rw [if_pos nI_0, if_pos (.inl rfl)]
  · rw [if_neg (nI_ne0 (by omega) (by omega)), if_neg (nI_ne0 (by omega) (by omega)), nI_l (by omega), q_six (by omega) (by omega), Option.bind_some, nI_l (by omega), q_six h1 (by omega), Option.bind_some]
    by_cases h4 : sx v = sx n
    · rw [if_pos (by rw [h4]), if_pos (.inr h4)]
    · rw [if_neg (fun q => h4 ((pk_lEQ (by omega) (by omega)).mp q)), if_neg (fun q => q.elim h0 h4)]
def mkT (p q : Nat) : Bool := decide ((p + q) % 2 = 1) && decide (Nat.gcd p q = 1)
theorem q_mk : ∀ p, p < 13 → ∀ q, q < p → 1 ≤ q → mX6_makesTriple (nI p) (nI q) = some (if mkT p q = true then 1 else 0) := by decide +kernel
theorem q_cm : ∀ p, p < 13 → ∀ q, q < p → 1 ≤ q → mX7_common (nI p) (nI q) = some (nI (Nat.gcd p q)) := by decide +kernel
theorem tx_step (x2 x3 x6 : Int32) (six : Nat → Int32) (kE : Int32 → Option Int32) (n : Nat) (x5 x7 : Int32) : mlX6_triple_i_40 x2 x3 x6 six kE (n + 1) x5 x7 = (if x6 ≤ x7 then kE x5 else Option.bind (mX6_makesTriple x6 x7) (fun u5 => if u5 = 0 then mlX6_triple_i_40 x2 x3 x6 six kE n x5 (x7 + 1) else Option.bind (mX6_mayBeTriple six x2 x6 x7) (fun u8 => if u8 = 0 then mlX6_triple_i_40 x2 x3 x6 six kE n x5 (x7 + 1) else if x5 = x3 then some ((100 : Int32) * x6 + x7) else mlX6_triple_i_40 x2 x3 x6 six kE n (x5 + 1) (x7 + 1)))) := by
  rw [mlX6_triple_i_40]
  simp only [md_jnP, md_letP]
def trT (x1 x2 x3 x5 : Int32) (m_cell : Nat → Int32) (x4 x6 low : Int32) (G : Int32 → Option Int32) : Option Int32 := (if ((x5 + x6) - (x5 + x6) / (2 : Int32) * (2 : Int32)) = (1 : Int32) then Option.bind (mX7_common x5 x6) (fun u25 => if u25 = (1 : Int32) then Option.bind (mX7_at x1 x2 (0 : Int32)) (fun u16 => if u16 < 0 ∨ 96 ≤ u16.toNatClampNeg then none else Option.bind (mX7_agree (m_cell u16.toNatClampNeg) low) (fun u18 => if u18 = 0 then G x4 else Option.bind (mX7_at x1 x2 (1 : Int32)) (fun u20 => if u20 < 0 ∨ 96 ≤ u20.toNatClampNeg then none else Option.bind (mX7_agree (m_cell u20.toNatClampNeg) ((x5 * x5 - x6 * x6 + (2 : Int32) * x5 * x6) - low)) (fun u22 => if u22 = 0 then G x4 else Option.bind (mX7_at x1 x2 (2 : Int32)) (fun u9 => if u9 < 0 ∨ 96 ≤ u9.toNatClampNeg then none else Option.bind (mX7_agree (m_cell u9.toNatClampNeg) (x5 * x5 + x6 * x6)) (fun u11 => if u11 = 0 then G x4 else if x4 = x3 then some ((100 : Int32) * x5 + x6) else G (x4 + 1))))))) else G x4) else G x4)
theorem tm_step (x1 x2 x3 x5 : Int32) (m_cell : Nat → Int32) (kE : Int32 → Option Int32) (n : Nat) (x4 x6 : Int32) : mlX7_triple_27 x1 x2 x3 x5 m_cell kE (n + 1) x4 x6 = (if x5 ≤ x6 then kE x4 else trT x1 x2 x3 x5 m_cell x4 x6 (if (2 : Int32) * x5 * x6 ≤ x5 * x5 - x6 * x6 then (2 : Int32) * x5 * x6 else x5 * x5 - x6 * x6) (fun z => mlX7_triple_27 x1 x2 x3 x5 m_cell kE n z (x6 + 1))) := by
  rw [mlX7_triple_27, trT]
  simp only [md_jnP, md_letP]
  by_cases h : (2 : Int32) * x5 * x6 ≤ x5 * x5 - x6 * x6
  · simp only [if_pos h, w00, w10, if_true, if_false]
  · simp only [if_neg h, w00, w10, if_true, if_false]
theorem q_trT {t i p q : Nat} (ht : t < 4) (hi : i < 8) (hp : p < 13) (hq : q < p) (hq1 : 1 ≤ q) {six m_cell : Nat → Int32} {v0 v1 v2 : Nat} (b0 : v0 ≤ 12959999) (b1 : v1 ≤ 12959999) (b2 : v2 ≤ 12959999) (s0 : six (3 * i + 0) = nI (sx v0)) (s1 : six (3 * i + 1) = nI (sx v1)) (s2 : six (3 * i + 2) = nI (sx v2)) (c0 : m_cell (24 * t + (3 * i + 0)) = nI v0) (c1 : m_cell (24 * t + (3 * i + 1)) = nI v1) (c2 : m_cell (24 * t + (3 * i + 2)) = nI v2) (x3 x4 : Int32) (Gx Gm : Int32 → Option Int32) (hG : ∀ z, ∃ r, Gx z = some r ∧ Gm z = some r) :
    ∃ r, Option.bind (mX6_makesTriple (nI p) (nI q)) (fun u5 => if u5 = 0 then Gx x4 else Option.bind (mX6_mayBeTriple six (nI i) (nI p) (nI q)) (fun u8 => if u8 = 0 then Gx x4 else if x4 = x3 then some ((100 : Int32) * nI p + nI q) else Gx (x4 + 1))) = some r ∧ trT (nI t) (nI i) x3 (nI p) m_cell x4 (nI q) (if (2 : Int32) * nI p * nI q ≤ nI p * nI p - nI q * nI q then (2 : Int32) * nI p * nI q else nI p * nI p - nI q * nI q) Gm = some r := by
  have hqq : q * q < p * p := Nat.mul_lt_mul'' hq hq
  have hpp : p * p ≤ 12 * 12 := Nat.mul_le_mul (by omega) (by omega)
  have h2 : 2 * p * q ≤ 2 * 12 * 12 := Nat.mul_le_mul (by omega) (by omega)
  have h21 : 1 ≤ 2 * p * q := Nat.mul_pos (by omega) hq1
  have eo : nI p * nI p - nI q * nI q = nI (p * p - q * q) := by rw [pk_mul, pk_mul, pk_sub (by omega)]
  have e2 : (2 : Int32) * nI p * nI q = nI (2 * p * q) := by rw [show (2 : Int32) * nI p = nI (2 * p) from pk_mul 2 p, pk_mul]
  have es : nI p * nI p + nI q * nI q = nI (p * p + q * q) := by rw [pk_mul, pk_mul, nI_add]
  have a0 : mX7_at (nI t) (nI i) (0 : Int32) = some (nI (24 * t + (3 * i + 0))) := q_at t i 0
  have a1 : mX7_at (nI t) (nI i) (1 : Int32) = some (nI (24 * t + (3 * i + 1))) := q_at t i 1
  have a2 : mX7_at (nI t) (nI i) (2 : Int32) = some (nI (24 * t + (3 * i + 2))) := q_at t i 2
  have i0 := nI_in (c := 24 * t + (3 * i + 0)) (N := 96) (by omega) (by decide)
  have i1 := nI_in (c := 24 * t + (3 * i + 1)) (N := 96) (by omega) (by decide)
  have i2 := nI_in (c := 24 * t + (3 * i + 2)) (N := 96) (by omega) (by decide)
  have hs1 : 1 ≤ p * p + q * q := by omega
  rw [q_mk p hp q hq hq1, Option.bind_some, mX6_mayBeTriple, trT, md_letP, md_letP, q_cm p hp q hq hq1, Option.bind_some, eo, e2, es, a0, Option.bind_some, if_neg i0, a1, Option.bind_some, if_neg i1, a2, Option.bind_some, if_neg i2, nI_clamp (by omega), nI_clamp (by omega), nI_clamp (by omega), c0, c1, c2]
  have hone : 1 ≤ p * p - q * q := by omega
  have hone2 : p * p - q * q ≤ 144 := by omega
  generalize p * p - q * q = one at hone hone2
  generalize 2 * p * q = two at h2 h21
  have el : (if nI two ≤ nI one then nI two else nI one) = nI (min two one) := by
    by_cases h : two ≤ one
    · rw [if_pos ((nI_leI (by omega) (by omega)).mpr h), Nat.min_eq_left h]
    · rw [if_neg (fun q => h ((nI_leI (by omega) (by omega)).mp q)), Nat.min_eq_right (by omega)]
  have el2 : (if nI two < nI one then nI two else nI one) = nI (min two one) := by
    by_cases h : two < one
    · rw [if_pos ((nI_ltI (by omega) (by omega)).mpr h), Nat.min_eq_left (by omega)]
    · rw [if_neg (fun q => h ((nI_ltI (by omega) (by omega)).mp q)), Nat.min_eq_right (by omega)]
  have eh : (if nI one < nI two then nI two else nI one) = nI (one + two - min two one) := by
    by_cases h : one < two
    · rw [if_pos ((nI_ltI (by omega) (by omega)).mpr h), Nat.min_eq_right (by omega), Nat.add_sub_cancel_left]
    · rw [if_neg (fun q => h ((nI_ltI (by omega) (by omega)).mp q)), Nat.min_eq_left (by omega), Nat.add_sub_cancel]
  have em : nI one + nI two - nI (min two one) = nI (one + two - min two one) := by rw [nI_add, pk_sub (by omega)]
  have ml1 : 1 ≤ min two one := by omega
  have mh1 : 1 ≤ one + two - min two one := by omega
  have m0 := q_mayBe (n := min two one) hi (by decide) s0 b0 (by omega)
  have m1 := q_mayBe (n := one + two - min two one) hi (by decide) s1 b1 (by omega)
  have m2 := q_mayBe (n := p * p + q * q) hi (by decide) s2 b2 (by omega)
  rw [el, el2, eh, em, q_agree b0 ml1 (by omega), q_agree b1 mh1 (by omega), q_agree b2 hs1 (by omega), Option.bind_some, Option.bind_some, Option.bind_some]
  rw [show mX3_mayBe six (nI i) (0 : Int32) (nI (min two one)) = _ from m0, show mX3_mayBe six (nI i) (1 : Int32) (nI (one + two - min two one)) = _ from m1, show mX3_mayBe six (nI i) (2 : Int32) (nI (p * p + q * q)) = _ from m2]
  have er : nI p + nI q - (nI p + nI q) / (2 : Int32) * (2 : Int32) = nI ((p + q) % 2) := by
    rw [nI_add]; exact pk_rem (d := 2) (by omega) (by decide) (by decide)
  rw [er]
  by_cases hk : mkT p q = true
  · have hk' := hk
    rw [mkT, Bool.and_eq_true, decide_eq_true_eq, decide_eq_true_eq] at hk'
    rw [if_pos hk, hk'.1, hk'.2, if_pos y11, if_pos y11]
    rcases agr_01 v0 (min two one) with e | e
    · simp only [e, Option.bind_some, w00, w10, if_true, if_false]
      exact hG x4
    · rcases agr_01 v1 (one + two - min two one) with e' | e'
      · simp only [e, e', Option.bind_some, w00, w10, if_true, if_false]
        exact hG x4
      · rcases agr_01 v2 (p * p + q * q) with e'' | e''
        · simp only [e, e', e'', Option.bind_some, w00, w10, if_true, if_false]
          exact hG x4
        · simp only [e, e', e'', Option.bind_some, w10, if_false]
          by_cases hx : x4 = x3
          · rw [if_pos hx, if_pos hx]; exact ⟨_, rfl, rfl⟩
          · rw [if_neg hx, if_neg hx]; exact hG (x4 + 1)
  · rw [if_neg hk, if_pos (show (0 : Int32) = 0 from rfl)]
    have hg : Nat.gcd p q ≤ p := Nat.gcd_le_left _ (by omega)
    by_cases hx : (p + q) % 2 = 1
    · rw [hx, if_pos y11, if_neg]
      · exact hG x4
      · intro g
        have g1 := (nI_eq (b := 1) (by omega) (by decide)).mp g
        exact hk (by rw [mkT, Bool.and_eq_true]; exact ⟨decide_eq_true hx, decide_eq_true g1⟩)
    · rw [if_neg]
      · exact hG x4
      · intro g
        exact hx ((nI_eq (b := 1) (by omega) (by decide)).mp g)
theorem q_tr_in {t i p : Nat} (ht : t < 4) (hi : i < 8) (hp : p < 13) {six m_cell : Nat → Int32} {v0 v1 v2 : Nat} (b0 : v0 ≤ 12959999) (b1 : v1 ≤ 12959999) (b2 : v2 ≤ 12959999) (s0 : six (3 * i + 0) = nI (sx v0)) (s1 : six (3 * i + 1) = nI (sx v1)) (s2 : six (3 * i + 2) = nI (sx v2)) (c0 : m_cell (24 * t + (3 * i + 0)) = nI v0) (c1 : m_cell (24 * t + (3 * i + 1)) = nI v1) (c2 : m_cell (24 * t + (3 * i + 2)) = nI v2) (x3 : Int32) (kE kF : Int32 → Option Int32) (hk : ∀ c, ∃ r, kE c = some r ∧ kF c = some r) : ∀ (d q f g : Nat) (c : Int32), q + d = p → 1 ≤ q → d < f → d < g → ∃ r, mlX6_triple_i_40 (nI i) x3 (nI p) six kE f c (nI q) = some r ∧ mlX7_triple_27 (nI t) (nI i) x3 (nI p) m_cell kF g c (nI q) = some r := by
  intro d
  induction d with
  | zero =>
    intro q f g c hq h1 hf hg
    obtain ⟨f, rfl⟩ : ∃ z, f = z + 1 := ⟨f - 1, by omega⟩
    obtain ⟨g, rfl⟩ : ∃ z, g = z + 1 := ⟨g - 1, by omega⟩
    have hc : nI p ≤ nI q := (nI_leI (by omega) (by omega)).mpr (by omega)
    rw [tx_step, tm_step, if_pos hc, if_pos hc]
    exact hk c
  | succ d ih =>
    intro q f g c hq h1 hf hg
    obtain ⟨f, rfl⟩ : ∃ z, f = z + 1 := ⟨f - 1, by omega⟩
    obtain ⟨g, rfl⟩ : ∃ z, g = z + 1 := ⟨g - 1, by omega⟩
    have hc : ¬ nI p ≤ nI q := fun h => by have := (nI_leI (by omega) (by omega)).mp h; omega
    have e1 : nI q + (1 : Int32) = nI (q + 1) := nI_1 q
    rw [tx_step, tm_step, if_neg hc, if_neg hc, e1]
    exact q_trT ht hi hp (by omega) h1 b0 b1 b2 s0 s1 s2 c0 c1 c2 x3 c (fun z => mlX6_triple_i_40 (nI i) x3 (nI p) six kE f z (nI (q + 1))) (fun z => mlX7_triple_27 (nI t) (nI i) x3 (nI p) m_cell kF g z (nI (q + 1))) (fun z => ih (q + 1) f g z (by omega) (by omega) (by omega) (by omega))
theorem q_tr_out {t i : Nat} (ht : t < 4) (hi : i < 8) {six m_cell : Nat → Int32} {v0 v1 v2 : Nat} (b0 : v0 ≤ 12959999) (b1 : v1 ≤ 12959999) (b2 : v2 ≤ 12959999) (s0 : six (3 * i + 0) = nI (sx v0)) (s1 : six (3 * i + 1) = nI (sx v1)) (s2 : six (3 * i + 2) = nI (sx v2)) (c0 : m_cell (24 * t + (3 * i + 0)) = nI v0) (c1 : m_cell (24 * t + (3 * i + 1)) = nI v1) (c2 : m_cell (24 * t + (3 * i + 2)) = nI v2) (x3 : Int32) (kE : Int32 → Option Int32) (hk : ∀ c, ∃ r, kE c = some r) : ∀ (d p f g : Nat) (c : Int32), p + d = 13 → 2 ≤ p → d < f → d < g → ∃ r, mlX6_triple_i_30 (nI i) x3 six kE f c (nI p) = some r ∧ mlX7_triple_17 (nI t) (nI i) x3 m_cell kE g c (nI p) = some r := by
  intro d
  induction d with
  | zero =>
    intro p f g c hp h1 hf hg
    obtain ⟨f, rfl⟩ : ∃ z, f = z + 1 := ⟨f - 1, by omega⟩
    obtain ⟨g, rfl⟩ : ∃ z, g = z + 1 := ⟨g - 1, by omega⟩
    rw [mlX6_triple_i_30, mlX7_triple_17, if_pos (show (12 : Int32) < nI p from (nI_ltI (a := 12) (by decide) (by omega)).mpr (by omega)), if_pos (show (13 : Int32) ≤ nI p from (nI_leI (a := 13) (by decide) (by omega)).mpr (by omega))]
    obtain ⟨r, hr⟩ := hk c
    exact ⟨r, hr, hr⟩
  | succ d ih =>
    intro p f g c hp h1 hf hg
    obtain ⟨f, rfl⟩ : ∃ z, f = z + 1 := ⟨f - 1, by omega⟩
    obtain ⟨g, rfl⟩ : ∃ z, g = z + 1 := ⟨g - 1, by omega⟩
    rw [mlX6_triple_i_30, mlX7_triple_17, if_neg (show ¬ (12 : Int32) < nI p from fun h => by have := (nI_ltI (a := 12) (by decide) (by omega)).mp h; omega), if_neg (show ¬ (13 : Int32) ≤ nI p from fun h => by have := (nI_leI (a := 13) (by decide) (by omega)).mp h; omega), show (1 : Int32) = nI 1 from rfl, nI_add]
    exact q_tr_in ht hi (by omega) b0 b1 b2 s0 s1 s2 c0 c1 c2 x3 _ _ (fun z => by
      rw [md_letP, md_letP]
      exact ih (p + 1) f g z (by omega) (by omega) (by omega) (by omega)) (p - 1) 1 kN kN c (by omega) (by decide) (by have : kN = 5000 := rfl; omega) (by have : kN = 5000 := rfl; omega)
/-- triple -/
theorem op_triple {t : Nat} (ht : t < 4) {cells six m_rows m_cell : Nat → Int32} {rows : Int32} (h : tabRel t cells six rows m_rows m_cell) (row i : Int32) : ∃ r, mX6_triple_i six rows (nI t) row i = some r ∧ mX7_triple m_rows m_cell (nI t) row i = some r := by
  obtain ⟨r, h1, h2, rfl, h4, h5⟩ := h
  rw [mX6_triple_i, mX7_triple, mX3_hasCell]
  rcases q_isRow h1 h2 ht h4 row with ⟨hc, hz⟩ | ⟨j, hj, rfl, hz⟩
  · rw [hz]
    refine ⟨-1, ?_, rfl⟩
    by_cases h0 : row < 0
    · rw [if_pos h0]; rfl
    · rw [if_neg h0, if_pos (hc.resolve_left h0)]; rfl
  · obtain ⟨v0, b0, -, c0, s0, -⟩ := h5 (3 * j + 0) (by omega)
    obtain ⟨v1, b1, -, c1, s1, -⟩ := h5 (3 * j + 1) (by omega)
    obtain ⟨v2, b2, -, c2, s2, -⟩ := h5 (3 * j + 2) (by omega)
    rw [hz, Option.bind_some, if_neg h10, if_neg (nI_pos (by omega)), if_neg (show ¬ nI r ≤ nI j from fun q => by have := (nI_leI (by omega) (by omega)).mp q; omega), if_neg (show ¬ (0 : Int32) < 0 by decide), if_neg (show ¬ (3 : Int32) ≤ 0 by decide), Option.bind_some, if_neg h10]
    exact q_tr_out ht (by omega) b0 b1 b2 s0 s1 s2 c0 c1 c2 i _ (fun c => by by_cases h : i = -1 <;> simp [h]) 11 2 kN kN 0 rfl (by decide) (by decide) (by decide)
theorem op_triple_o {x : Int32} (hx : x < 0 ∨ nI 4 ≤ x) (m_rows m_cell : Nat → Int32) (row i : Int32) : mX7_triple m_rows m_cell x row i = some (-1) := by
  rw [mX7_triple, mX7_isRow, q_isTo hx]; rfl
