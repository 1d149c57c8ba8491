/-! A PLACE IN A TABLE: which rows do not agree -/
def overRel (o : Nat → Int32) : Prop := ∀ i, i < 29 → o i = 0 ∨ o i = nI (tV (kLN.getD i 0))
theorem ta_step (o : Nat → Int32) (p1 p2 p3 p4 : Int32) : mX7_tableAt o p1 p2 p3 p4 = (if p1 = (1 : Int32) then (if p4 = (1 : Int32) then (if p3 < 0 ∨ 29 ≤ p3.toNatClampNeg then none else if o p3.toNatClampNeg = 0 then Option.bind (mX7_listAt p3) (fun u7 => Option.bind (mX7_turnedOf (Int32.toInt64 u7)) (fun u8 => some (upd o p3.toNatClampNeg (Int64.toInt32 u8) p3.toNatClampNeg, upd o p3.toNatClampNeg (Int64.toInt32 u8)))) else some (o p3.toNatClampNeg, o)) else Option.bind (mX7_inTable p1 p2 p3 p4) (fun u1 => some (u1, o))) else Option.bind (mX7_inTable p1 p2 p3 p4) (fun u1 => some (u1, o))) := by
  rw [mX7_tableAt]
  simp only [md_jnP, md_letP]
  by_cases h : p3 < 0 ∨ 29 ≤ p3.toNatClampNeg
  · simp only [if_pos h]
  · simp only [if_neg h]
theorem q_tableAt {o : Nat → Int32} (ho : overRel o) {K N row col : Nat} (h : okT K N) (hr : row < rO K) (hc : col < 3) : ∃ o', mX7_tableAt o (nI K) (nI N) (nI row) (nI col) = some (nI (tn K N row col), o') ∧ overRel o' := by
  have h59 := rO_le K
  rw [ta_step, q_inT h hr hc, Option.bind_some]
  by_cases h1 : nI K = (1 : Int32)
  · rw [if_pos h1]
    by_cases h2 : nI col = (1 : Int32)
    · have hK : K = 1 := by
        rcases h with ⟨rfl, -, -⟩ | ⟨rfl, rfl⟩ | ⟨rfl, rfl⟩ | ⟨rfl, rfl⟩
        · exact absurd h1 n01
        · rfl
        · exact absurd h1 n21
        · exact absurd h1 n31
      have hC : col = 1 := by
        rcases c3 hc with rfl | rfl | rfl
        · exact absurd h2 n01
        · rfl
        · exact absurd h2 n21
      subst hK hC
      have hr' : row < 29 := hr
      rw [if_pos h2, if_neg (nI_in hr' (by decide)), nI_clamp (by omega), (tn_1 N row).2.1]
      by_cases h3 : o row = 0
      · rw [if_pos h3, q_listAt_in hr', Option.bind_some, kLf_eq row hr', q_rcol hr', Option.bind_some, lN_i, pk_us]
        refine ⟨_, rfl, fun i hi => ?_⟩
        by_cases e : i = row
        · subst e; exact .inr pk_us
        · rw [pk_un e]; exact ho i hi
      · rw [if_neg h3, (ho row hr').resolve_left h3]
        exact ⟨o, rfl, ho⟩
    · rw [if_neg h2]; exact ⟨o, rfl, ho⟩
  · rw [if_neg h1]; exact ⟨o, rfl, ho⟩
theorem q_sh {K N F row col : Nat} (h : okT K N) (hr : F + row < rO K) (hc : col < 3) : mX0_sixtyHere (nI K) (nI N) (nI F) (nI row) (nI col) = some (nI (sx (tn K N (F + row) col))) := by
  have hv := tn_rng h hr hc
  rw [mX0_sixtyHere, nI_add, q_num h hr hc, Option.bind_some, nI_l (by omega), q_strip (by omega), Option.bind_some, lN_i]
def nz (cells : Nat → Int32) : Nat → Nat
  | 0 => 0
  | n + 1 => nz cells n + (if cv cells n = 0 then 0 else 1)
theorem nz_le (cells : Nat → Int32) : ∀ n, nz cells n ≤ n := by
  intro n
  induction n with
  | zero => exact Nat.le_refl _
  | succ n ih => rw [nz]; split <;> omega
/-- the cells that are not broken, of the first n -/
def heldRel (cells hr hc hs : Nat → Int32) (cnt n : Nat) : Prop := cnt = nz cells n ∧ ∃ e : Nat → Nat, (∀ h, h < cnt → e h < n ∧ cv cells (e h) ≠ 0 ∧ hr h = nI (e h / 3) ∧ hc h = nI (e h % 3) ∧ hs h = nI (sx (cv cells (e h)))) ∧ ∀ c, c < n → cv cells c ≠ 0 → ∃ h, h < cnt ∧ e h = c
abbrev bgK := (Nat → Int32) → (Nat → Int32) → (Nat → Int32) → Int32 → Option ((Nat → Int32) × (Nat → Int32) × (Nat → Int32) × Int32 × Int32 × Int32 × Int32 × Int32)
theorem bg_step (s_rows : Int32) (tc ts : Nat → Int32) (kE : bgK) (n : Nat) (x2 : Int32) (a b c : Nat → Int32) (k : Int32) : mlX0_begin_30 s_rows tc ts kE (n + 1) x2 a b c k = (if s_rows * (3 : Int32) ≤ x2 then kE a b c k else if (24 : Int32) ≤ x2 then kE a b c k else Option.bind (mX3_held tc (x2 / (3 : Int32)) (x2 - x2 / (3 : Int32) * (3 : Int32))) (fun u6 => if u6 = 0 then mlX0_begin_30 s_rows tc ts kE n (x2 + 1) a b c k else if k < 0 then mlX0_begin_30 s_rows tc ts kE n (x2 + 1) a b c k else if (24 : Int32) ≤ k then mlX0_begin_30 s_rows tc ts kE n (x2 + 1) a b c k else if k < 0 ∨ 24 ≤ k.toNatClampNeg then none else Option.bind (mX3_heldSixty ts (x2 / (3 : Int32)) (x2 - x2 / (3 : Int32) * (3 : Int32))) (fun u13 => mlX0_begin_30 s_rows tc ts kE n (x2 + 1) (upd a k.toNatClampNeg (x2 / (3 : Int32))) (upd b k.toNatClampNeg (x2 - x2 / (3 : Int32) * (3 : Int32))) (upd c k.toNatClampNeg u13) (k + 1)))) := by
  rw [mlX0_begin_30]
  simp only [md_jnP, md_letP]
  by_cases h : k < 0 ∨ 24 ≤ k.toNatClampNeg
  · simp only [if_pos h]
  · simp only [if_neg h]
def exE (e : Nat → Nat) (k i h : Nat) : Nat := if h = k then i else e h
theorem exE_s (e : Nat → Nat) (k i : Nat) : exE e k i k = i := if_pos rfl
theorem exE_n {e : Nat → Nat} {k i h : Nat} (q : h ≠ k) : exE e k i h = e h := if_neg q
theorem q_bg_loop {t r : Nat} (hr8 : r ≤ 8) {cells six m_cell : Nat → Int32} (hC : cellRel t r cells six m_cell) (kE : bgK) : ∀ (d i f : Nat) (a b c : Nat → Int32) (k : Nat), i + d = 3 * r → d < f → heldRel cells a b c k i → ∃ a' b' c' k', mlX0_begin_30 (nI r) cells six kE f (nI i) a b c (nI k) = kE a' b' c' (nI k') ∧ heldRel cells a' b' c' k' (3 * r) := by
  intro d
  induction d with
  | zero =>
    intro i f a b c k hi hf hh
    obtain ⟨f, rfl⟩ : ∃ z, f = z + 1 := ⟨f - 1, by omega⟩
    obtain rfl : i = 3 * r := by omega
    rw [bg_step, show nI r * (3 : Int32) = nI (r * 3) from pk_mul r 3, if_pos ((nI_leI (by omega) (by omega)).mpr (by omega))]
    exact ⟨a, b, c, k, rfl, hh⟩
  | succ d ih =>
    intro i f a b c k hi hf hh
    obtain ⟨f, rfl⟩ : ∃ z, f = z + 1 := ⟨f - 1, by omega⟩
    obtain ⟨v1, v2, -, v4, -⟩ := cell_v hC (c := i) (by omega)
    obtain ⟨hk, e, he1, he2⟩ := hh
    have hki := nz_le cells i
    have q3 : nI i / (3 : Int32) = nI (i / 3) := pk_div (d := 3) (by omega) (by decide) (by decide)
    have r3 : nI i - nI (i / 3) * (3 : Int32) = nI (i % 3) := by rw [← pk_rem (a := i) (d := 3) (by omega) (by decide) (by decide), pk_div (by omega) (by decide) (by decide)]; rfl
    rw [bg_step, show nI r * (3 : Int32) = nI (r * 3) from pk_mul r 3, if_neg (show ¬ nI (r * 3) ≤ nI i from fun q => by have := (nI_leI (by omega) (by omega)).mp q; omega), if_neg (show ¬ (24 : Int32) ≤ nI i from fun q => by have := (nI_leI (a := 24) (by decide) (by omega)).mp q; omega), q3, r3, q_held (by omega) (by omega), Option.bind_some, show 3 * (i / 3) + i % 3 = i by omega, v2, show nI i + (1 : Int32) = nI (i + 1) from nI_1 i]
    by_cases h0 : cv cells i = 0
    · rw [if_pos (by rw [h0]; rfl)]
      refine ih (i + 1) f a b c k (by omega) (by omega) ⟨by rw [nz, if_pos h0]; exact hk, e, fun h hh => ?_, fun c hc hn => ?_⟩
      · obtain ⟨g1, g2⟩ := he1 h hh
        exact ⟨by omega, g2⟩
      · by_cases ec : c = i
        · subst ec; exact absurd h0 hn
        · exact he2 c (by omega) hn
    · rw [if_neg (nI_ne0 (by omega) (by omega)), if_neg (nI_pos (by omega)), if_neg (show ¬ (24 : Int32) ≤ nI k from fun q => by have := (nI_leI (a := 24) (by decide) (by omega)).mp q; omega), if_neg (nI_in (N := 24) (by omega) (by decide)), q_heldSixty (by omega) (by omega), Option.bind_some, show 3 * (i / 3) + i % 3 = i by omega, v4, nI_clamp (by omega), show nI k + (1 : Int32) = nI (k + 1) from nI_1 k]
      refine ih (i + 1) f _ _ _ (k + 1) (by omega) (by omega) ⟨by rw [nz, if_neg h0, hk], exE e k i, fun h hh => ?_, fun c hc hn => ?_⟩
      · by_cases ek : h = k
        · subst ek
          rw [exE_s]
          exact ⟨by omega, h0, pk_us, pk_us, pk_us⟩
        · rw [exE_n ek, pk_un ek, pk_un ek, pk_un ek]
          obtain ⟨g1, g2⟩ := he1 h (by omega)
          exact ⟨by omega, g2⟩
      · by_cases ec : c = i
        · subst ec
          exact ⟨k, by omega, exE_s _ _ _⟩
        · obtain ⟨h, g1, g2⟩ := he2 c (by omega) hn
          exact ⟨h, by omega, by rw [exE_n (by omega)]; exact g2⟩
theorem q_begin {t r : Nat} (hr8 : r ≤ 8) {cells six m_cell : Nat → Int32} (hC : cellRel t r cells six m_cell) (a b c : Nat → Int32) : ∃ a' b' c' k', mX0_begin a b c cells six (nI r) = some (a', b', c', nI k', nI r, 0, 1, -1) ∧ heldRel cells a' b' c' k' (3 * r) := by
  rw [mX0_begin, mX3_rowCount, Option.bind_some]
  exact q_bg_loop hr8 hC (fun (s_heldRows_134 : Nat → Int32) (s_heldColumns_134 : Nat → Int32) (s_heldSixties_134 : Nat → Int32) (s_heldCount_134 : Int32) => (some (s_heldRows_134, s_heldColumns_134, s_heldSixties_134, s_heldCount_134, nI r, (0 : Int32), (1 : Int32), (-1 : Int32)))) (3 * r) 0 kN a b c 0 (by omega) (by have : kN = 5000 := rfl; omega) ⟨rfl, fun _ => 0, fun h hh => absurd hh (by omega), fun c hc => absurd hc (by omega)⟩
/-- no cell, the cells of one row, cells of two rows -/
def tri0 (B : Nat → Prop) (n : Nat) : Prop := ∀ c, c < n → ¬ B c
def tri1 (B : Nat → Prop) (n p : Nat) : Prop := (∃ c, c < n ∧ B c ∧ c / 3 = p) ∧ ∀ c, c < n → B c → c / 3 = p
def tri2 (B : Nat → Prop) (n : Nat) : Prop := ∃ c d, c < n ∧ d < n ∧ B c ∧ B d ∧ c / 3 ≠ d / 3
def bad (cells : Nat → Int32) (K N F c : Nat) : Prop := cv cells c ≠ 0 ∧ sx (cv cells c) ≠ sx (tn K N (F + c / 3) (c % 3))
theorem sr_step (hr hc hs : Nat → Int32) (k a b c : Int32) (kE : Int32 → Option Int32) (n : Nat) (x1 x2 : Int32) : mlX0_strayRow_4 hr hc hs k a b c kE (n + 1) x1 x2 = (if k ≤ x2 then kE x1 else if (24 : Int32) ≤ x2 then kE x1 else if x2 < 0 ∨ 24 ≤ x2.toNatClampNeg then none else if hr x2.toNatClampNeg = x1 then mlX0_strayRow_4 hr hc hs k a b c kE n x1 (x2 + 1) else Option.bind (mX0_sixtyHere a b c (hr x2.toNatClampNeg) (hc x2.toNatClampNeg)) (fun u9 => if hs x2.toNatClampNeg = u9 then mlX0_strayRow_4 hr hc hs k a b c kE n x1 (x2 + 1) else if x1 = (-1 : Int32) then mlX0_strayRow_4 hr hc hs k a b c kE n (hr x2.toNatClampNeg) (x2 + 1) else some (-2))) := by
  rw [mlX0_strayRow_4]
  simp only [md_jnP, md_letP]
  by_cases h : x2 < 0 ∨ 24 ≤ x2.toNatClampNeg
  · simp only [if_pos h]
  · simp only [if_neg h]
theorem nI_m1 {n : Nat} (h : n < 2 ^ 31) : ¬ nI n = (-1 : Int32) := fun q => by
  have := congrArg Int32.toInt q
  rw [nI_toInt h] at this
  have e : (-1 : Int32).toInt = -1 := by decide
  omega
theorem nI_m2 {n : Nat} (h : n < 2 ^ 31) : ¬ nI n = (-2 : Int32) := fun q => by
  have := congrArg Int32.toInt q
  rw [nI_toInt h] at this
  have e : (-2 : Int32).toInt = -2 := by decide
  omega
theorem nI_m6 {n : Nat} (h : n < 2 ^ 31) : ¬ nI n = (-6 : Int32) := fun q => by
  have := congrArg Int32.toInt q
  rw [nI_toInt h] at this
  have e : (-6 : Int32).toInt = -6 := by decide
  omega
section PLACE
variable {t r K N F k : Nat} {cells six m_rows m_cell hr hc hs : Nat → Int32}
theorem q_sr_loop (hr8 : r ≤ 8) (hC : cellRel t r cells six m_cell) (h : okT K N) (hF : F + r ≤ rO K) (hk : k ≤ 24) {e : Nat → Nat} (he : ∀ h, h < k → e h < 3 * r ∧ cv cells (e h) ≠ 0 ∧ hr h = nI (e h / 3) ∧ hc h = nI (e h % 3) ∧ hs h = nI (sx (cv cells (e h)))) : ∀ (d i f : Nat) (x : Int32), i + d = k → d < f → ((x = -1 ∧ ∀ j, j < i → ¬ bad cells K N F (e j)) ∨ ∃ p, p < 8 ∧ x = nI p ∧ (∃ j, j < i ∧ bad cells K N F (e j) ∧ e j / 3 = p) ∧ ∀ j, j < i → bad cells K N F (e j) → e j / 3 = p) → (mlX0_strayRow_4 hr hc hs (nI k) (nI K) (nI N) (nI F) (fun y => some y) f x (nI i) = some (-1) ∧ ∀ j, j < k → ¬ bad cells K N F (e j)) ∨ (∃ p, p < 8 ∧ mlX0_strayRow_4 hr hc hs (nI k) (nI K) (nI N) (nI F) (fun y => some y) f x (nI i) = some (nI p) ∧ (∃ j, j < k ∧ bad cells K N F (e j) ∧ e j / 3 = p) ∧ ∀ j, j < k → bad cells K N F (e j) → e j / 3 = p) ∨ (mlX0_strayRow_4 hr hc hs (nI k) (nI K) (nI N) (nI F) (fun y => some y) f x (nI i) = some (-2) ∧ ∃ j l, j < k ∧ l < k ∧ bad cells K N F (e j) ∧ bad cells K N F (e l) ∧ e j / 3 ≠ e l / 3) := by
  intro d
  induction d with
  | zero =>
    intro i f x hi hf hx
    obtain ⟨f, rfl⟩ : ∃ z, f = z + 1 := ⟨f - 1, by omega⟩
    obtain rfl : i = k := by omega
    rw [sr_step, if_pos ((nI_leI (by omega) (by omega)).mpr (Nat.le_refl _))]
    rcases hx with ⟨rfl, g⟩ | ⟨p, hp, rfl, g⟩
    · exact .inl ⟨rfl, g⟩
    · exact .inr (.inl ⟨p, hp, rfl, g⟩)
  | succ d ih =>
    intro i f x hi hf hx
    obtain ⟨f, rfl⟩ : ∃ z, f = z + 1 := ⟨f - 1, by omega⟩
    obtain ⟨e1, e2, e3, e4, e5⟩ := he i (by omega)
    obtain ⟨v1, -, -, -, -⟩ := cell_v hC (c := e i) (by omega)
    have hl := sx_le (cv cells (e i))
    have hv := tn_rng h (row := F + e i / 3) (col := e i % 3) (by omega) (by omega)
    have hl2 := sx_le (tn K N (F + e i / 3) (e i % 3))
    rw [sr_step, if_neg (show ¬ nI k ≤ nI i from fun q => by have := (nI_leI (by omega) (by omega)).mp q; omega), if_neg (show ¬ (24 : Int32) ≤ nI i from fun q => by have := (nI_leI (a := 24) (by decide) (by omega)).mp q; omega), if_neg (nI_in (N := 24) (by omega) (by decide)), nI_clamp (by omega), e3, e4, e5, q_sh h (by omega) (by omega), Option.bind_some, show nI i + (1 : Int32) = nI (i + 1) from nI_1 i]
    rcases hx with ⟨rfl, g⟩ | ⟨p, hp, rfl, ⟨j0, g0, g1, g2⟩, g⟩
    · rw [if_neg (nI_m1 (by omega))]
      by_cases hb : sx (cv cells (e i)) = sx (tn K N (F + e i / 3) (e i % 3))
      · rw [if_pos (by rw [hb])]
        refine ih (i + 1) f _ (by omega) (by omega) (.inl ⟨rfl, fun j hj => ?_⟩)
        by_cases ej : j = i
        · subst ej; exact fun q => q.2 hb
        · exact g j (by omega)
      · rw [if_neg (fun q => hb ((nI_eq (by omega) (by omega)).mp q)), if_pos rfl]
        refine ih (i + 1) f _ (by omega) (by omega) (.inr ⟨e i / 3, by omega, rfl, ⟨i, by omega, ⟨e2, hb⟩, rfl⟩, fun j hj hbj => ?_⟩)
        by_cases ej : j = i
        · subst ej; rfl
        · exact absurd hbj (g j (by omega))
    · by_cases hrow : e i / 3 = p
      · rw [if_pos (by rw [hrow])]
        refine ih (i + 1) f _ (by omega) (by omega) (.inr ⟨p, hp, rfl, ⟨j0, by omega, g1, g2⟩, fun j hj hbj => ?_⟩)
        by_cases ej : j = i
        · subst ej; exact hrow
        · exact g j (by omega) hbj
      · rw [if_neg (fun q => hrow ((nI_eq (by omega) (by omega)).mp q))]
        by_cases hb : sx (cv cells (e i)) = sx (tn K N (F + e i / 3) (e i % 3))
        · rw [if_pos (by rw [hb])]
          refine ih (i + 1) f _ (by omega) (by omega) (.inr ⟨p, hp, rfl, ⟨j0, by omega, g1, g2⟩, fun j hj hbj => ?_⟩)
          by_cases ej : j = i
          · subst ej; exact absurd hb hbj.2
          · exact g j (by omega) hbj
        · rw [if_neg (fun q => hb ((nI_eq (by omega) (by omega)).mp q)), if_neg (nI_m1 (by omega))]
          right; right
          exact ⟨rfl, j0, i, by omega, by omega, g1, ⟨e2, hb⟩, by rw [g2]; exact fun q => hrow q.symm⟩
theorem q_stray (hr8 : r ≤ 8) (hC : cellRel t r cells six m_cell) (h : okT K N) (hF : F + r ≤ rO K) (hH : heldRel cells hr hc hs k (3 * r)) : (mX0_strayRow hr hc hs (nI k) (nI K) (nI N) (nI F) = some (-1) ∧ tri0 (bad cells K N F) (3 * r)) ∨ (∃ p, p < 8 ∧ mX0_strayRow hr hc hs (nI k) (nI K) (nI N) (nI F) = some (nI p) ∧ tri1 (bad cells K N F) (3 * r) p) ∨ (mX0_strayRow hr hc hs (nI k) (nI K) (nI N) (nI F) = some (-2) ∧ tri2 (bad cells K N F) (3 * r)) := by
  obtain ⟨hk, e, he1, he2⟩ := hH
  have := nz_le cells (3 * r)
  rcases q_sr_loop hr8 hC h hF (k := k) (by omega) he1 k 0 kN (-1) (by omega) (by have : kN = 5000 := rfl; omega) (.inl ⟨rfl, fun j hj => absurd hj (by omega)⟩) with ⟨a, b⟩ | ⟨p, hp, a, ⟨j, hj, b1, b2⟩, b⟩ | ⟨a, j, l, hj, hl, b1, b2, b3⟩
  · left
    refine ⟨a, fun c hc hb => ?_⟩
    obtain ⟨h, g1, g2⟩ := he2 c hc hb.1
    subst g2
    exact b h g1 hb
  · right; left
    refine ⟨p, hp, a, ⟨e j, (he1 j hj).1, b1, b2⟩, fun c hc hb => ?_⟩
    obtain ⟨h, g1, g2⟩ := he2 c hc hb.1
    subst g2
    exact b h g1 hb
  · right; right
    exact ⟨a, e j, e l, (he1 j hj).1, (he1 l hl).1, b1, b2, b3⟩
theorem ui_step (x1 x2 x3 x4 x7 : Int32) (mc : Nat → Int32) (kE : Int32 → (Nat → Int32) → Option (Int32 × (Nat → Int32))) (n : Nat) (x8 x9 : Int32) (o : Nat → Int32) : mlX7_unlike_26 x1 x2 x3 x4 x7 mc kE (n + 1) x8 x9 o = (if (3 : Int32) ≤ x9 then kE x8 o else if x8 = 0 then kE x8 o else Option.bind (mX7_at x1 x7 x9) (fun u5 => if u5 < 0 ∨ 96 ≤ u5.toNatClampNeg then none else if mc u5.toNatClampNeg = 0 then mlX7_unlike_26 x1 x2 x3 x4 x7 mc kE n 1 (x9 + 1) o else Option.bind (mX7_tableAt o x2 x3 (x4 + x7) x9) (fun u10 => Option.bind (mX7_agree (mc u5.toNatClampNeg) u10.1) (fun u11 => if u11 = 0 then mlX7_unlike_26 x1 x2 x3 x4 x7 mc kE n 0 (x9 + 1) u10.2 else mlX7_unlike_26 x1 x2 x3 x4 x7 mc kE n 1 (x9 + 1) u10.2)))) := by
  rw [mlX7_unlike_26]
  simp only [md_jnP, md_letP]
theorem q_ui_loop (ht : t < 4) (hr8 : r ≤ 8) (hC : cellRel t r cells six m_cell) (h : okT K N) (hF : F + r ≤ rO K) {i : Nat} (hi : i < r) (kE : Int32 → (Nat → Int32) → Option (Int32 × (Nat → Int32))) : ∀ (d j f : Nat) (o : Nat → Int32), j + d = 3 → d + 1 < f → overRel o → ∃ o', overRel o' ∧ ((mlX7_unlike_26 (nI t) (nI K) (nI N) (nI F) (nI i) m_cell kE f 1 (nI j) o = kE 1 o' ∧ ∀ l, j ≤ l → l < 3 → ¬ bad cells K N F (3 * i + l)) ∨ (mlX7_unlike_26 (nI t) (nI K) (nI N) (nI F) (nI i) m_cell kE f 1 (nI j) o = kE 0 o' ∧ ∃ l, l < 3 ∧ bad cells K N F (3 * i + l))) := by
  intro d
  induction d with
  | zero =>
    intro j f o hj hf ho
    obtain ⟨f, rfl⟩ : ∃ z, f = z + 1 := ⟨f - 1, by omega⟩
    refine ⟨o, ho, .inl ⟨?_, fun l h1 h2 => by omega⟩⟩
    rw [ui_step, if_pos (show (3 : Int32) ≤ nI j from (nI_leI (a := 3) (by decide) (by omega)).mpr (by omega))]
  | succ d ih =>
    intro j f o hj hf ho
    obtain ⟨f, rfl⟩ : ∃ z, f = z + 1 := ⟨f - 1, by omega⟩
    obtain ⟨v1, -, v3, -, -⟩ := cell_v hC (c := 3 * i + j) (by omega)
    have hv := tn_rng h (row := F + i) (col := j) (by omega) (by omega)
    have hbd : bad cells K N F (3 * i + j) ↔ (cv cells (3 * i + j) ≠ 0 ∧ sx (cv cells (3 * i + j)) ≠ sx (tn K N (F + i) j)) := by
      rw [bad, show (3 * i + j) / 3 = i by omega, show (3 * i + j) % 3 = j by omega]
    rw [ui_step, if_neg (show ¬ (3 : Int32) ≤ nI j from fun q => by have := (nI_leI (a := 3) (by decide) (by omega)).mp q; omega), if_neg h10, q_at, Option.bind_some, if_neg (nI_in (N := 96) (by omega) (by decide)), nI_clamp (by omega), v3, nI_add, show nI j + (1 : Int32) = nI (j + 1) from nI_1 j]
    have go : ∀ o1, overRel o1 → ¬ bad cells K N F (3 * i + j) → ∃ o', overRel o' ∧ ((mlX7_unlike_26 (nI t) (nI K) (nI N) (nI F) (nI i) m_cell kE f 1 (nI (j + 1)) o1 = kE 1 o' ∧ ∀ l, j ≤ l → l < 3 → ¬ bad cells K N F (3 * i + l)) ∨ (mlX7_unlike_26 (nI t) (nI K) (nI N) (nI F) (nI i) m_cell kE f 1 (nI (j + 1)) o1 = kE 0 o' ∧ ∃ l, l < 3 ∧ bad cells K N F (3 * i + l))) := by
      intro o1 ho1 hb
      obtain ⟨o', g1, g2⟩ := ih (j + 1) f o1 (by omega) (by omega) ho1
      refine ⟨o', g1, ?_⟩
      rcases g2 with ⟨a, b⟩ | q
      · left
        refine ⟨a, fun l h1 h2 => ?_⟩
        rcases Nat.eq_or_lt_of_le h1 with q | q
        · subst q; exact hb
        · exact b l (by omega) h2
      · exact .inr q
    by_cases h0 : cv cells (3 * i + j) = 0
    · rw [if_pos (by rw [h0]; rfl)]
      exact go o ho (fun q => (hbd.mp q).1 h0)
    · obtain ⟨o1, t1, t2⟩ := q_tableAt ho h (row := F + i) (col := j) (by omega) (by omega)
      rw [if_neg (nI_ne0 (by omega) (by omega)), t1, Option.bind_some, q_agree v1 hv.1 (by omega), Option.bind_some]
      by_cases hb : sx (cv cells (3 * i + j)) = sx (tn K N (F + i) j)
      · rw [show agr (cv cells (3 * i + j)) (tn K N (F + i) j) = 1 from if_pos (.inr hb), if_neg h10]
        exact go o1 t2 (fun q => (hbd.mp q).2 hb)
      · rw [show agr (cv cells (3 * i + j)) (tn K N (F + i) j) = 0 from if_neg (fun q => q.elim h0 hb), if_pos (show (0 : Int32) = 0 from rfl)]
        obtain ⟨f, rfl⟩ : ∃ z, f = z + 1 := ⟨f - 1, by omega⟩
        refine ⟨o1, t2, .inr ⟨?_, j, by omega, hbd.mpr ⟨h0, hb⟩⟩⟩
        rw [ui_step]
        by_cases q : (3 : Int32) ≤ nI (j + 1)
        · rw [if_pos q]
        · rw [if_neg q, if_pos (show (0 : Int32) = 0 from rfl)]
theorem uo_step (x1 x2 x3 x4 : Int32) (mr mc : Nat → Int32) (kE : Int32 → Int32 → (Nat → Int32) → Option (Int32 × (Nat → Int32))) (n : Nat) (x5 x6 x7 : Int32) (o : Nat → Int32) : mlX7_unlike_9 x1 x2 x3 x4 mr mc kE (n + 1) x5 x6 x7 o = (if x1 < 0 ∨ 4 ≤ x1.toNatClampNeg then none else if mr x1.toNatClampNeg ≤ x7 then kE x5 x6 o else mlX7_unlike_26 x1 x2 x3 x4 x7 mc (fun y o' => if y = 0 then mlX7_unlike_9 x1 x2 x3 x4 mr mc kE n (x5 + 1) x7 (x7 + 1) o' else mlX7_unlike_9 x1 x2 x3 x4 mr mc kE n (x5 + 0) x6 (x7 + 1) o') kN 1 0 o) := by
  rw [mlX7_unlike_9]
  simp only [md_jnP, md_letP]
  congr 3
  funext y o'
  by_cases h : y = 0
  · simp only [if_pos h]
  · simp only [if_neg h]
/-- many, last: after i rows -/
def ulI (B : Nat → Prop) (i many last : Nat) : Prop := (many = 0 ∧ last = 0 ∧ tri0 B (3 * i)) ∨ (many = 1 ∧ last < i ∧ tri1 B (3 * i) last) ∨ (2 ≤ many ∧ many ≤ i ∧ last < i ∧ tri2 B (3 * i))
theorem ulI_ok {B : Nat → Prop} {i many last : Nat} (h : ulI B i many last) (hb : ∀ l, 0 ≤ l → l < 3 → ¬ B (3 * i + l)) : ulI B (i + 1) many last := by
  have up : ∀ c, c < 3 * (i + 1) → B c → c < 3 * i := by
    intro c hc hB
    rcases Nat.lt_or_ge c (3 * i) with q | q
    · exact q
    · have := hb (c - 3 * i) (by omega) (by omega)
      rw [show 3 * i + (c - 3 * i) = c by omega] at this
      exact absurd hB this
  rcases h with ⟨h1, h2, h3⟩ | ⟨h1, h2, ⟨c, c1, c2, c3⟩, h3⟩ | ⟨h1, h2, h4, c, d, c1, c2, c3, c4, c5⟩
  · exact .inl ⟨h1, h2, fun c hc hB => h3 c (up c hc hB) hB⟩
  · exact .inr (.inl ⟨h1, by omega, ⟨c, by omega, c2, c3⟩, fun c hc hB => h3 c (up c hc hB) hB⟩)
  · exact .inr (.inr ⟨h1, by omega, by omega, c, d, by omega, by omega, c3, c4, c5⟩)
theorem ulI_bad {B : Nat → Prop} {i many last : Nat} (h : ulI B i many last) (hb : ∃ l, l < 3 ∧ B (3 * i + l)) : ulI B (i + 1) (many + 1) i := by
  obtain ⟨l, hl, hB⟩ := hb
  rcases h with ⟨h1, h2, h3⟩ | ⟨h1, h2, ⟨c, c1, c2, c3⟩, h3⟩ | ⟨h1, h2, h4, c, d, c1, c2, c3, c4, c5⟩
  · refine .inr (.inl ⟨by omega, by omega, ⟨3 * i + l, by omega, hB, by omega⟩, fun c hc hBc => ?_⟩)
    rcases Nat.lt_or_ge c (3 * i) with q | q
    · exact absurd hBc (h3 c q)
    · omega
  · exact .inr (.inr ⟨by omega, by omega, by omega, c, 3 * i + l, by omega, by omega, c2, hB, by omega⟩)
  · exact .inr (.inr ⟨by omega, by omega, by omega, c, d, by omega, by omega, c3, c4, c5⟩)
theorem q_uo_loop (ht : t < 4) (hr8 : r ≤ 8) (hm : m_rows t = nI r) (hC : cellRel t r cells six m_cell) (h : okT K N) (hF : F + r ≤ rO K) (kE : Int32 → Int32 → (Nat → Int32) → Option (Int32 × (Nat → Int32))) : ∀ (d i f many last : Nat) (o : Nat → Int32), i + d = r → d < f → overRel o → ulI (bad cells K N F) i many last → ∃ o' many' last', overRel o' ∧ ulI (bad cells K N F) r many' last' ∧ mlX7_unlike_9 (nI t) (nI K) (nI N) (nI F) m_rows m_cell kE f (nI many) (nI last) (nI i) o = kE (nI many') (nI last') o' := by
  intro d
  induction d with
  | zero =>
    intro i f many last o hi hf ho hI
    obtain ⟨f, rfl⟩ : ∃ z, f = z + 1 := ⟨f - 1, by omega⟩
    obtain rfl : i = r := by omega
    refine ⟨o, many, last, ho, hI, ?_⟩
    rw [uo_step, if_neg (nI_in ht (by decide)), nI_clamp (by omega), hm, if_pos ((nI_leI (by omega) (by omega)).mpr (Nat.le_refl _))]
  | succ d ih =>
    intro i f many last o hi hf ho hI
    obtain ⟨f, rfl⟩ : ∃ z, f = z + 1 := ⟨f - 1, by omega⟩
    rw [uo_step, if_neg (nI_in ht (by decide)), nI_clamp (by omega), hm, if_neg (show ¬ nI r ≤ nI i from fun q => by have := (nI_leI (by omega) (by omega)).mp q; omega), show nI many + (1 : Int32) = nI (many + 1) from nI_1 many, show nI i + (1 : Int32) = nI (i + 1) from nI_1 i, Int32.add_zero]
    obtain ⟨o1, g1, g2⟩ := q_ui_loop ht hr8 hC h hF (i := i) (by omega) (fun y o' => if y = 0 then mlX7_unlike_9 (nI t) (nI K) (nI N) (nI F) m_rows m_cell kE f (nI (many + 1)) (nI i) (nI (i + 1)) o' else mlX7_unlike_9 (nI t) (nI K) (nI N) (nI F) m_rows m_cell kE f (nI many) (nI last) (nI (i + 1)) o') 3 0 kN o rfl (by decide) ho
    rw [show nI 0 = (0 : Int32) from nI_0] at g2
    rcases g2 with ⟨a, b⟩ | ⟨a, b⟩
    · rw [a, if_neg h10]
      exact ih (i + 1) f many last o1 (by omega) (by omega) g1 (ulI_ok hI b)
    · rw [a, if_pos (show (0 : Int32) = 0 from rfl)]
      exact ih (i + 1) f (many + 1) i o1 (by omega) (by omega) g1 (ulI_bad hI b)
theorem q_unlike (ht : t < 4) (hr8 : r ≤ 8) (hm : m_rows t = nI r) (hC : cellRel t r cells six m_cell) (h : okT K N) (hF : F + r ≤ rO K) {o : Nat → Int32} (ho : overRel o) : ∃ o' many last, overRel o' ∧ ulI (bad cells K N F) r many last ∧ mX7_unlike m_rows m_cell o (nI t) (nI K) (nI N) (nI F) = some (nI (100 * many + last), o') := by
  obtain ⟨o', many, last, g1, g2, g3⟩ := q_uo_loop ht hr8 hm hC h hF (fun (y5_126 : Int32) (y6_126 : Int32) (m_overs_126 : Nat → Int32) => (some ((((100 : Int32) * y5_126) + y6_126), m_overs_126))) r 0 kN 0 0 o (by omega) (by have : kN = 5000 := rfl; omega) ho (.inl ⟨rfl, rfl, fun c hc => absurd hc (by omega)⟩)
  refine ⟨o', many, last, g1, g2, ?_⟩
  rw [show 100 * many + last = 100 * many + last from rfl, ← nI_add, ← pk_mul]
  exact g3
/-- both at one place -/
theorem q_place (ht : t < 4) (hr8 : r ≤ 8) (hm : m_rows t = nI r) (hC : cellRel t r cells six m_cell) (h : okT K N) (hF : F + r ≤ rO K) (hH : heldRel cells hr hc hs k (3 * r)) {o : Nat → Int32} (ho : overRel o) : ∃ s u o', mX0_strayRow hr hc hs (nI k) (nI K) (nI N) (nI F) = some s ∧ mX7_unlike m_rows m_cell o (nI t) (nI K) (nI N) (nI F) = some (nI u, o') ∧ overRel o' ∧ ((s = -1 ∧ u = 0 ∧ tri0 (bad cells K N F) (3 * r)) ∨ (∃ p, p < 8 ∧ s = nI p ∧ u = 100 + p ∧ ¬ tri0 (bad cells K N F) (3 * r)) ∨ (s = -2 ∧ 200 ≤ u ∧ u < 1000 ∧ ¬ tri0 (bad cells K N F) (3 * r))) := by
  obtain ⟨o', many, last, g1, g2, g3⟩ := q_unlike ht hr8 hm hC h hF ho
  rcases q_stray hr8 hC h hF hH with ⟨a, b⟩ | ⟨p, hp, a, ⟨c, c1, c2, c3⟩, b⟩ | ⟨a, c, d, c1, c2, c3, c4, c5⟩
  · refine ⟨-1, 100 * many + last, o', a, g3, g1, .inl ⟨rfl, ?_, b⟩⟩
    rcases g2 with ⟨rfl, rfl, -⟩ | ⟨-, -, ⟨c, c1, c2, -⟩, -⟩ | ⟨-, -, -, c, d, c1, -, c3, -, -⟩
    · rfl
    · exact absurd c2 (b c c1)
    · exact absurd c3 (b c c1)
  · refine ⟨nI p, 100 * many + last, o', a, g3, g1, .inr (.inl ⟨p, hp, rfl, ?_, fun q => q c c1 c2⟩)⟩
    rcases g2 with ⟨-, -, q⟩ | ⟨rfl, -, ⟨d, d1, d2, d3⟩, -⟩ | ⟨-, -, -, d, d', d1, d2, d3, d4, d5⟩
    · exact absurd c2 (q c c1)
    · have := b d d1 d2; omega
    · have e1 := b d d1 d3; have e2 := b d' d2 d4; omega
  · refine ⟨-2, 100 * many + last, o', a, g3, g1, .inr (.inr ⟨rfl, ?_, ?_, fun q => q c c1 c3⟩)⟩
    · rcases g2 with ⟨-, -, q⟩ | ⟨-, -, -, q⟩ | ⟨h1, -, -, -⟩
      · exact absurd c3 (q c c1)
      · have e1 := q c c1 c3; have e2 := q d c2 c4; omega
      · omega
    · rcases g2 with ⟨-, -, q⟩ | ⟨-, -, -, q⟩ | ⟨h1, h2, h3, -⟩
      · exact absurd c3 (q c c1)
      · have e1 := q c c1 c3; have e2 := q d c2 c4; omega
      · omega
end PLACE
