/-! TABLES, copy -/
def tn (K N row col : Nat) : Nat := if K = 0 then (if col = 0 then N else if col = 1 then row + 1 else N * (row + 1)) else if K = 1 then (if col = 0 then kLN.getD row 0 else if col = 1 then tV (kLN.getD row 0) else 1) else if K = 2 then (if col = 2 then (row + 1) * (row + 1) else row + 1) else (if col = 0 then row + 1 else if col = 1 then (row + 1) * (row + 1) else (row + 1) * (row + 1) * (row + 1))
def rO (K : Nat) : Nat := if K = 1 then 29 else if K = 3 then 40 else 59
def okT (K N : Nat) : Prop := (K = 0 ∧ 1 ≤ N ∧ N ≤ 59) ∨ (K = 1 ∧ N = 0) ∨ (K = 2 ∧ N = 0) ∨ (K = 3 ∧ N = 0)
theorem ls_rng : ∀ j, j < 29 → 2 ≤ kLN.getD j 0 ∧ kLN.getD j 0 ≤ 81 := by decide +kernel
theorem tV_rng : ∀ j, j < 29 → 1 ≤ tV (kLN.getD j 0) ∧ tV (kLN.getD j 0) ≤ 160000 := by decide +kernel
theorem tn_0 (N row : Nat) : tn 0 N row 0 = N ∧ tn 0 N row 1 = row + 1 ∧ tn 0 N row 2 = N * (row + 1) := ⟨rfl, rfl, rfl⟩
theorem tn_1 (N row : Nat) : tn 1 N row 0 = kLN.getD row 0 ∧ tn 1 N row 1 = tV (kLN.getD row 0) ∧ tn 1 N row 2 = 1 := ⟨by rw [tn, if_neg (by decide), if_pos rfl, if_pos rfl], by rw [tn, if_neg (by decide), if_pos rfl, if_neg (by decide), if_pos rfl], by rw [tn, if_neg (by decide), if_pos rfl, if_neg (by decide), if_neg (by decide)]⟩
theorem tn_2 (N row : Nat) : tn 2 N row 0 = row + 1 ∧ tn 2 N row 1 = row + 1 ∧ tn 2 N row 2 = (row + 1) * (row + 1) := ⟨rfl, rfl, rfl⟩
theorem tn_3 (N row : Nat) : tn 3 N row 0 = row + 1 ∧ tn 3 N row 1 = (row + 1) * (row + 1) ∧ tn 3 N row 2 = (row + 1) * (row + 1) * (row + 1) := ⟨rfl, rfl, rfl⟩
theorem rO_1 : rO 1 = 29 := rfl
theorem rO_le (K : Nat) : rO K ≤ 59 := by rw [rO]; (repeat' split) <;> decide
theorem c3 {col : Nat} (h : col < 3) : col = 0 ∨ col = 1 ∨ col = 2 := by omega
theorem tn_rng {K N row col : Nat} (h : okT K N) (hr : row < rO K) (hc : col < 3) : 1 ≤ tn K N row col ∧ tn K N row col ≤ 12959999 := by
  have h59 := rO_le K
  have m2 : (row + 1) * (row + 1) ≤ 59 * 59 := Nat.mul_le_mul (by omega) (by omega)
  have p2 : 1 ≤ (row + 1) * (row + 1) := Nat.mul_pos (by omega) (by omega)
  have m3 : (row + 1) * (row + 1) * (row + 1) ≤ 59 * 59 * 59 := Nat.mul_le_mul m2 (by omega)
  have p3 : 1 ≤ (row + 1) * (row + 1) * (row + 1) := Nat.mul_pos p2 (by omega)
  rcases h with ⟨rfl, h1, h2⟩ | ⟨rfl, rfl⟩ | ⟨rfl, rfl⟩ | ⟨rfl, rfl⟩
  · have m : N * (row + 1) ≤ 59 * 59 := Nat.mul_le_mul (by omega) (by omega)
    have p : 1 ≤ N * (row + 1) := Nat.mul_pos (by omega) (by omega)
    obtain ⟨a, b, c⟩ := tn_0 N row
    rcases c3 hc with rfl | rfl | rfl
    · rw [a]; omega
    · rw [b]; omega
    · rw [c]; omega
  · have m := ls_rng row hr
    have p := tV_rng row hr
    obtain ⟨a, b, c⟩ := tn_1 0 row
    rcases c3 hc with rfl | rfl | rfl
    · rw [a]; omega
    · rw [b]; omega
    · rw [c]; omega
  · obtain ⟨a, b, c⟩ := tn_2 0 row
    rcases c3 hc with rfl | rfl | rfl
    · rw [a]; omega
    · rw [b]; omega
    · rw [c]; omega
  · obtain ⟨a, b, c⟩ := tn_3 0 row
    rcases c3 hc with rfl | rfl | rfl
    · rw [a]; omega
    · rw [b]; omega
    · rw [c]; omega
theorem kOf_eq : ∀ j, j < 29 → kOf j = nI (tV (kLN.getD j 0)) := by decide +kernel
theorem q_listedO {j : Nat} (hj : j < 29) : mX4_listedOver (nI j) = some (kOf j) := by
  rw [mX4_listedOver, if_neg (nI_pos (by omega)), if_neg (show ¬ (29 : Int32) ≤ nI j from fun q => by have := (nI_leI (a := 29) (by decide) (by omega)).mp q; omega), if_neg (nI_in hj (by decide)), nI_clamp (by omega)]
theorem q_rcol {row : Nat} (h : row < 29) : mX7_turnedOf (Int32.toInt64 (nI (kLN.getD row 0))) = some (lN (tV (kLN.getD row 0))) := by
  have m := ls_rng row h
  have p := tV_rng row h
  rw [nI_l (by omega), q_tof (by omega) (by omega), uu_lt (by omega)]
theorem n10 : ¬ nI 1 = (0 : Int32) := by decide
theorem n20 : ¬ nI 2 = (0 : Int32) := by decide
theorem n21 : ¬ nI 2 = (1 : Int32) := by decide
theorem n01 : ¬ nI 0 = (1 : Int32) := by decide
theorem n02 : ¬ nI 0 = (2 : Int32) := by decide
theorem n03 : ¬ nI 0 = (3 : Int32) := by decide
theorem n12 : ¬ nI 1 = (2 : Int32) := by decide
theorem n23 : ¬ nI 2 = (3 : Int32) := by decide
theorem y11 : nI 1 = (1 : Int32) := rfl
theorem y22 : nI 2 = (2 : Int32) := rfl
theorem y33 : nI 3 = (3 : Int32) := rfl
theorem num_step (p1 p2 p3 p4 : Int32) : mX2_number p1 p2 p3 p4 = (if p1 = (0 : Int32) then (if p4 = 0 then some p2 else if p4 = (1 : Int32) then some (p3 + 1) else some (p2 * (p3 + 1))) else if p1 = (1 : Int32) then (if p4 = 0 then mX4_listed p3 else if p4 = (1 : Int32) then mX4_listedOver p3 else some (1 : Int32)) else if p1 = (2 : Int32) then (if (2 : Int32) ≤ p4 then some ((p3 + 1) * (p3 + 1)) else some (p3 + 1)) else if p4 = 0 then some (p3 + 1) else if p4 = (1 : Int32) then some ((p3 + 1) * (p3 + 1)) else some ((p3 + 1) * (p3 + 1) * (p3 + 1))) := by
  rw [mX2_number, md_letP, bind_id, bind_id]
theorem q_num {K N row col : Nat} (h : okT K N) (hr : row < rO K) (hc : col < 3) : mX2_number (nI K) (nI N) (nI row) (nI col) = some (nI (tn K N row col)) := by
  have e1 : nI row + (1 : Int32) = nI (row + 1) := nI_1 row
  rw [num_step, e1, pk_mul, pk_mul, pk_mul]
  rcases h with ⟨rfl, -, -⟩ | ⟨rfl, rfl⟩ | ⟨rfl, rfl⟩ | ⟨rfl, rfl⟩
  · obtain ⟨a, b, c⟩ := tn_0 N row
    rw [if_pos nI_0]
    rcases c3 hc with rfl | rfl | rfl
    · rw [a, if_pos nI_0]
    · rw [b, if_neg n10, if_pos y11]
    · rw [c, if_neg n20, if_neg n21]
  · obtain ⟨a, b, c⟩ := tn_1 0 row
    rw [if_neg n10, if_pos y11, q_listed hr, q_listedO hr, kLf_eq row hr, kOf_eq row hr]
    rcases c3 hc with rfl | rfl | rfl
    · rw [a, if_pos nI_0]
    · rw [b, if_neg n10, if_pos y11]
    · rw [c, if_neg n20, if_neg n21]; rfl
  · obtain ⟨a, b, c⟩ := tn_2 0 row
    rw [if_neg n20, if_neg n21, if_pos y22]
    rcases c3 hc with rfl | rfl | rfl
    · rw [a, if_neg (by decide)]
    · rw [b, if_neg (by decide)]
    · rw [c, if_pos (by decide)]
  · obtain ⟨a, b, c⟩ := tn_3 0 row
    rw [if_neg n30, if_neg n31, if_neg n32]
    rcases c3 hc with rfl | rfl | rfl
    · rw [a, if_pos nI_0]
    · rw [b, if_neg n10, if_pos y11]
    · rw [c, if_neg n20, if_neg n21]
theorem it_step (p1 p2 p3 p4 : Int32) : mX7_inTable p1 p2 p3 p4 = (if p1 = (1 : Int32) then (if p4 = 0 then mX7_listAt p3 else if p4 = (1 : Int32) then Option.bind (mX7_listAt p3) (fun u11 => Option.bind (mX7_turnedOf (Int32.toInt64 u11)) (fun u12 => some (Int64.toInt32 u12))) else some (1 : Int32)) else if p4 = 0 then (if p1 = 0 then some p2 else some (p3 + 1)) else if p1 = (3 : Int32) then (if p4 = (1 : Int32) then some ((p3 + 1) * (p3 + 1)) else some ((p3 + 1) * (p3 + 1) * (p3 + 1))) else if p4 = (1 : Int32) then some (p3 + 1) else if p1 = 0 then some (p2 * (p3 + 1)) else some ((p3 + 1) * (p3 + 1))) := by
  rw [mX7_inTable, md_letP, bind_id]
theorem q_inT {K N row col : Nat} (h : okT K N) (hr : row < rO K) (hc : col < 3) : mX7_inTable (nI K) (nI N) (nI row) (nI col) = some (nI (tn K N row col)) := by
  have e1 : nI row + (1 : Int32) = nI (row + 1) := nI_1 row
  rw [it_step, e1, pk_mul, pk_mul, pk_mul]
  rcases h with ⟨rfl, -, -⟩ | ⟨rfl, rfl⟩ | ⟨rfl, rfl⟩ | ⟨rfl, rfl⟩
  · obtain ⟨a, b, c⟩ := tn_0 N row
    rw [if_neg n01]
    rcases c3 hc with rfl | rfl | rfl
    · rw [a, if_pos nI_0, if_pos nI_0]
    · rw [b, if_neg n10, if_neg n03, if_pos y11]
    · rw [c, if_neg n20, if_neg n03, if_neg n21, if_pos nI_0]
  · obtain ⟨a, b, c⟩ := tn_1 0 row
    rw [if_pos y11, q_listAt_in hr, Option.bind_some, kLf_eq row hr]
    rcases c3 hc with rfl | rfl | rfl
    · rw [a, if_pos nI_0]
    · rw [b, if_neg n10, if_pos y11, q_rcol hr, Option.bind_some, lN_i]
    · rw [c, if_neg n20, if_neg n21]; rfl
  · obtain ⟨a, b, c⟩ := tn_2 0 row
    rw [if_neg n21]
    rcases c3 hc with rfl | rfl | rfl
    · rw [a, if_pos nI_0, if_neg n20]
    · rw [b, if_neg n10, if_neg n23, if_pos y11]
    · rw [c, if_neg n20, if_neg n23, if_neg n21, if_neg n20]
  · obtain ⟨a, b, c⟩ := tn_3 0 row
    rw [if_neg n31]
    rcases c3 hc with rfl | rfl | rfl
    · rw [a, if_pos nI_0, if_neg n30]
    · rw [b, if_neg n10, if_pos y33, if_pos y11]
    · rw [c, if_neg n20, if_pos y33, if_neg n21]
theorem q_rows {K N : Nat} (h : okT K N) : mX2_rowsOf (nI K) = some (nI (rO K)) ∧ mX7_rowsOf (nI K) = some (nI (rO K)) := by
  rw [mX2_rowsOf, mX7_rowsOf]
  rcases h with ⟨rfl, -, -⟩ | ⟨rfl, rfl⟩ | ⟨rfl, rfl⟩ | ⟨rfl, rfl⟩ <;> exact ⟨rfl, rfl⟩
/-- the cells of a copy of m rows, as far as n cells are laid -/
def cpV (K N F n c : Nat) : Nat := if c < n then tn K N (F + c / 3) (c % 3) else 0
theorem q_cpx_in {K N F m i : Nat} (h : okT K N) (hm : m ≤ 8) (hF : F + m ≤ rO K) (hi : i < m) (kE : (Nat → Int32) → (Nat → Int32) → Option (Int32 × (Nat → Int32) × (Nat → Int32) × Int32)) : ∀ (d j f : Nat) (a b : Nat → Int32), j + d = 3 → d < f → (∀ c, c < 24 → a c = nI (cpV K N F (3 * i + j) c) ∧ b c = nI (sx (cpV K N F (3 * i + j) c))) → ∃ a' b', mlX6_copy_i_78 (nI K) (nI N) (nI F) (nI i) kE f (nI j) a b = kE a' b' ∧ ∀ c, c < 24 → a' c = nI (cpV K N F (3 * (i + 1)) c) ∧ b' c = nI (sx (cpV K N F (3 * (i + 1)) c)) := by
  intro d
  induction d with
  | zero =>
    intro j f a b hj hf hs
    obtain ⟨f, rfl⟩ : ∃ z, f = z + 1 := ⟨f - 1, by omega⟩
    rw [mlX6_copy_i_78, if_pos (show (3 : Int32) ≤ nI j from (nI_leI (a := 3) (by decide) (by omega)).mpr (by omega))]
    refine ⟨a, b, rfl, ?_⟩
    rw [show 3 * (i + 1) = 3 * i + j by omega]
    exact hs
  | succ d ih =>
    intro j f a b hj hf hs
    obtain ⟨f, rfl⟩ : ∃ z, f = z + 1 := ⟨f - 1, by omega⟩
    have hv := tn_rng h (row := F + i) (col := j) (by omega) (by omega)
    rw [mlX6_copy_i_78, if_neg (show ¬ (3 : Int32) ≤ nI j from fun q => by have := (nI_leI (a := 3) (by decide) (by omega)).mp q; omega), nI_add, q_num h (by omega) (by omega), Option.bind_some, q_hold (by omega) (by omega) hv.2, Option.bind_some, md_letP, show nI j + (1 : Int32) = nI (j + 1) from nI_1 j]
    refine ih (j + 1) f _ _ (by omega) (by omega) (fun c hc => ?_)
    by_cases e : c = 3 * i + j
    · subst e
      have e2 : cpV K N F (3 * i + (j + 1)) (3 * i + j) = tn K N (F + i) j := by
        rw [cpV, if_pos (by omega), show (3 * i + j) / 3 = i by omega, show (3 * i + j) % 3 = j by omega]
      rw [e2]
      exact ⟨pk_us, pk_us⟩
    · have e2 : cpV K N F (3 * i + (j + 1)) c = cpV K N F (3 * i + j) c := by
        rw [cpV, cpV]
        by_cases q : c < 3 * i + j
        · rw [if_pos q, if_pos (by omega)]
        · rw [if_neg q, if_neg (by omega)]
      rw [e2]
      exact ⟨(pk_un e).trans (hs c hc).1, (pk_un e).trans (hs c hc).2⟩
theorem q_cpx {K N F m : Nat} (h : okT K N) (hm : m ≤ 8) (hF : F + m ≤ rO K) (kE : (Nat → Int32) → (Nat → Int32) → Option (Int32 × (Nat → Int32) × (Nat → Int32) × Int32)) : ∀ (d i f : Nat) (a b : Nat → Int32), i + d = m → d < f → (∀ c, c < 24 → a c = nI (cpV K N F (3 * i) c) ∧ b c = nI (sx (cpV K N F (3 * i) c))) → ∃ a' b', mlX6_copy_i_68 (nI K) (nI N) (nI F) (nI m) kE f (nI i) a b = kE a' b' ∧ ∀ c, c < 24 → a' c = nI (cpV K N F (3 * m) c) ∧ b' c = nI (sx (cpV K N F (3 * m) c)) := by
  intro d
  induction d with
  | zero =>
    intro i f a b hi hf hs
    obtain ⟨f, rfl⟩ : ∃ z, f = z + 1 := ⟨f - 1, by omega⟩
    obtain rfl : i = m := by omega
    rw [mlX6_copy_i_68, if_pos ((nI_leI (by omega) (by omega)).mpr (Nat.le_refl _))]
    exact ⟨a, b, rfl, hs⟩
  | succ d ih =>
    intro i f a b hi hf hs
    obtain ⟨f, rfl⟩ : ∃ z, f = z + 1 := ⟨f - 1, by omega⟩
    rw [mlX6_copy_i_68, if_neg (show ¬ nI m ≤ nI i from fun q => by have := (nI_leI (by omega) (by omega)).mp q; omega)]
    obtain ⟨a1, b1, e1, e2⟩ := q_cpx_in h hm hF (i := i) (by omega) (fun (t_cells_111 : Nat → Int32) (t_sixties_111 : Nat → Int32) => (md_let (nI i + (1 : Int32)) (fun (x7_14 : Int32) => (mlX6_copy_i_68 (nI K) (nI N) (nI F) (nI m) kE f x7_14 t_cells_111 t_sixties_111)))) 3 0 kN a b rfl (by decide) hs
    obtain ⟨a2, b2, e3, e4⟩ := ih (i + 1) f a1 b1 (by omega) (by omega) e2
    refine ⟨a2, b2, ?_, e4⟩
    rw [show (0 : Int32) = nI 0 from rfl, e1, md_letP, show nI i + (1 : Int32) = nI (i + 1) from nI_1 i]
    exact e3
theorem cm_step (x1 x2 x3 x4 x5 : Int32) (kE : (Nat → Int32) → Option (Int32 × (Nat → Int32) × (Nat → Int32))) (n : Nat) (x6 : Int32) (a : Nat → Int32) : mlX7_copy_96 x1 x2 x3 x4 x5 kE (n + 1) x6 a = (if (24 : Int32) ≤ x6 then kE a else if (3 : Int32) * x5 ≤ x6 then (if ((24 : Int32) * x1 + x6) < 0 ∨ 96 ≤ ((24 : Int32) * x1 + x6).toNatClampNeg then none else mlX7_copy_96 x1 x2 x3 x4 x5 kE n (x6 + 1) (upd a ((24 : Int32) * x1 + x6).toNatClampNeg 0)) else Option.bind (mX7_inTable x2 x3 (x4 + (x6 / (3 : Int32))) (x6 - x6 / (3 : Int32) * (3 : Int32))) (fun u17 => if ((24 : Int32) * x1 + x6) < 0 ∨ 96 ≤ ((24 : Int32) * x1 + x6).toNatClampNeg then none else mlX7_copy_96 x1 x2 x3 x4 x5 kE n (x6 + 1) (upd a ((24 : Int32) * x1 + x6).toNatClampNeg u17))) := by
  rw [mlX7_copy_96]
  simp only [md_jnP, md_letP]
theorem q_cpm {t K N F m : Nat} (ht : t < 4) (h : okT K N) (hm : m ≤ 8) (hF : F + m ≤ rO K) (kE : (Nat → Int32) → Option (Int32 × (Nat → Int32) × (Nat → Int32))) : ∀ (d k f : Nat) (a : Nat → Int32), k + d = 24 → d < f → (∀ c, c < k → a (24 * t + c) = nI (cpV K N F (3 * m) c)) → ∃ a', mlX7_copy_96 (nI t) (nI K) (nI N) (nI F) (nI m) kE f (nI k) a = kE a' ∧ (∀ c, c < 24 → a' (24 * t + c) = nI (cpV K N F (3 * m) c)) ∧ frm t a a' := by
  intro d
  induction d with
  | zero =>
    intro k f a hk hf hs
    obtain ⟨f, rfl⟩ : ∃ z, f = z + 1 := ⟨f - 1, by omega⟩
    rw [cm_step, if_pos (show (24 : Int32) ≤ nI k from (nI_leI (a := 24) (by decide) (by omega)).mpr (by omega))]
    exact ⟨a, rfl, fun c hc => hs c (by omega), frm_refl _ _⟩
  | succ d ih =>
    intro k f a hk hf hs
    obtain ⟨f, rfl⟩ : ∃ z, f = z + 1 := ⟨f - 1, by omega⟩
    have hat := nI_in (c := 24 * t + k) (N := 96) (by omega) (by decide)
    have hgo : ∀ v, v = cpV K N F (3 * m) k → ∃ a', mlX7_copy_96 (nI t) (nI K) (nI N) (nI F) (nI m) kE f (nI (k + 1)) (upd a (24 * t + k) (nI v)) = kE a' ∧ (∀ c, c < 24 → a' (24 * t + c) = nI (cpV K N F (3 * m) c)) ∧ frm t a a' := by
      intro v hv
      obtain ⟨a', e1, e2, e3⟩ := ih (k + 1) f (upd a (24 * t + k) (nI v)) (by omega) (by omega) (fun c hc => by
        by_cases e : c = k
        · subst e; rw [← hv]; exact pk_us
        · rw [pk_un (by omega)]; exact hs c (by omega))
      exact ⟨a', e1, e2, frm_trans (frm_upd (by omega) _ _) e3⟩
    rw [cm_step, if_neg (show ¬ (24 : Int32) ≤ nI k from fun q => by have := (nI_leI (a := 24) (by decide) (by omega)).mp q; omega), show (24 : Int32) * nI t = nI (24 * t) from pk_mul 24 t, nI_add, show (3 : Int32) * nI m = nI (3 * m) from pk_mul 3 m, show nI k / (3 : Int32) = nI (k / 3) from pk_div (d := 3) (by omega) (by decide) (by decide), nI_add, show nI k + (1 : Int32) = nI (k + 1) from nI_1 k, nI_clamp (by omega)]
    rw [nI_clamp (by omega)] at hat
    by_cases hc : 3 * m ≤ k
    · rw [if_pos ((nI_leI (by omega) (by omega)).mpr hc), if_neg hat]
      exact hgo 0 (by rw [cpV, if_neg (by omega)])
    · rw [if_neg (show ¬ nI (3 * m) ≤ nI k from fun q => hc ((nI_leI (by omega) (by omega)).mp q)), show nI k - nI (k / 3) * (3 : Int32) = nI (k % 3) from by rw [← pk_rem (a := k) (d := 3) (by omega) (by decide) (by decide), pk_div (by omega) (by decide) (by decide)]; rfl, q_inT h (by omega) (by omega), Option.bind_some, if_neg hat]
      exact hgo _ (by rw [cpV, if_pos (by omega)])
theorem cp_tail {t K N : Nat} (ht : t < 4) (h : okT K N) {cells six m_rows m_cell : Nat → Int32} {rows : Int32} (hr : tabRel t cells six rows m_rows m_cell) (p4 p5 : Int32) : ∃ r cells' six' rows' m_rows' m_cell', (if p5 < (1 : Int32) then (some ((-2 : Int32), cells, six, rows)) else (if p5 ≤ (8 : Int32) then (if p4 < 0 then (some ((-5 : Int32), cells, six, rows)) else (Option.bind (mX2_rowsOf (nI K)) (fun u6 => (if p4 ≤ (u6 - p5) then (Option.bind (mX3_smooth cells six p5) (fun u8 => (mlX6_copy_i_68 (nI K) (nI N) p4 p5 (fun (t_cells_117 : Nat → Int32) (t_sixties_117 : Nat → Int32) => (some (p5, t_cells_117, t_sixties_117, u8.2.2))) kN (0 : Int32) u8.1 u8.2.1))) else (some ((-5 : Int32), cells, six, rows)))))) else (some ((-2 : Int32), cells, six, rows)))) = some (r, cells', six', rows') ∧ (Option.bind (mX7_in (Int32.toInt64 p5) (1 : Int64) (8 : Int64)) (fun u7 => (if u7 = 0 then (some ((-2 : Int32), m_rows, m_cell)) else (if p4 < 0 then (some ((-5 : Int32), m_rows, m_cell)) else (Option.bind (mX7_rowsOf (nI K)) (fun u10 => (if p4 ≤ (u10 - p5) then (if nI t < 0 ∨ 4 ≤ (Int32.toNatClampNeg (nI t)) then none else (mlX7_copy_96 (nI t) (nI K) (nI N) p4 p5 (fun (m_cell_150 : Nat → Int32) => (some (p5, upd m_rows (Int32.toNatClampNeg (nI t)) p5, m_cell_150))) kN (0 : Int32) m_cell)) else (some ((-5 : Int32), m_rows, m_cell))))))))) = some (r, m_rows', m_cell') ∧ tabRel t cells' six' rows' m_rows' m_cell' ∧ frm t m_cell m_cell' ∧ ∀ u, u ≠ t → m_rows' u = m_rows u := by
  rw [show (1 : Int64) = lN 1 from rfl, show (8 : Int64) = lN 8 from rfl]
  rcases q_inR p5 (a := 1) (b := 8) (by decide) (by decide) with ⟨hz, hc⟩ | ⟨m, h1, h2, rfl, hz⟩
  · rw [hz, Option.bind_some, if_pos (show (0 : Int32) = 0 from rfl)]
    refine ⟨-2, cells, six, rows, m_rows, m_cell, ?_, rfl, hr, frm_refl _ _, fun _ _ => rfl⟩
    by_cases h0 : p5 < 1
    · rw [if_pos h0]
    · rw [if_neg h0, if_neg (ile_nlt (show (8 : Int32) < p5 from hc.resolve_left h0))]
  · have h59 := rO_le K
    have h29 : 29 ≤ rO K := by rw [rO]; (repeat' split) <;> decide
    rw [hz, Option.bind_some, if_neg h10, if_neg (show ¬ nI m < (1 : Int32) from ilt_nlt ((nI_leI (a := 1) (by decide) (by omega)).mpr h1)), if_pos (show nI m ≤ (8 : Int32) from (nI_leI (b := 8) (by omega) (by decide)).mpr h2), (q_rows h).1, (q_rows h).2, Option.bind_some, Option.bind_some, pk_sub (by omega)]
    by_cases h0 : p4 < 0
    · rw [if_pos h0, if_pos h0]
      exact ⟨_, _, _, _, _, _, rfl, rfl, hr, frm_refl _ _, fun _ _ => rfl⟩
    · rw [if_neg h0, if_neg h0]
      obtain ⟨F, hF, rfl⟩ := nI_of h0
      by_cases h3 : F ≤ rO K - m
      · rw [if_pos ((nI_leI (by omega) (by omega)).mpr h3), if_pos ((nI_leI (by omega) (by omega)).mpr h3), if_neg (nI_in ht (by decide)), nI_clamp (by omega)]
        obtain ⟨a', b', e1, e2⟩ := q_smooth cells six (nI m)
        rw [e1, Option.bind_some]
        have z0 : ∀ c, cpV K N F (3 * 0) c = 0 := fun c => by rw [cpV, if_neg (by omega)]
        obtain ⟨a2, b2, e3, e4⟩ := q_cpx h h2 (F := F) (by omega) (fun (t_cells_117 : Nat → Int32) (t_sixties_117 : Nat → Int32) => (some (nI m, t_cells_117, t_sixties_117, nI m))) m 0 kN a' b' (by omega) (by have : kN = 5000 := rfl; omega) (fun c hc => by rw [z0, sx0]; exact e2 c hc)
        obtain ⟨m2, e5, e6, e7⟩ := q_cpm ht h h2 (F := F) (by omega) (fun (m_cell_150 : Nat → Int32) => (some (nI m, upd m_rows t (nI m), m_cell_150))) 24 0 kN m_cell rfl (by decide) (fun c hc => absurd hc (by omega))
        refine ⟨nI m, a2, b2, nI m, upd m_rows t (nI m), m2, e3, e5, ⟨m, h1, h2, rfl, pk_us, fun c hc => ⟨cpV K N F (3 * m) c, ?_, (e4 c hc).1, e6 c hc, (e4 c hc).2, fun q => by rw [cpV, if_neg (by omega)]⟩⟩, e7, fun u hu => pk_un hu⟩
        rw [cpV]
        by_cases q : c < 3 * m
        · rw [if_pos q]
          exact (tn_rng h (by omega) (by omega)).2
        · rw [if_neg q]; exact Nat.zero_le _
      · have h4 : ¬ nI F ≤ nI (rO K - m) := fun q => h3 ((nI_leI (by omega) (by omega)).mp q)
        rw [if_neg h4, if_neg h4]
        exact ⟨_, _, _, _, _, _, rfl, rfl, hr, frm_refl _ _, fun _ _ => rfl⟩
theorem cpo_step (m_rows m_cell : Nat → Int32) (p1 p2 p3 p4 p5 : Int32) (T : Option (Int32 × (Nat → Int32) × (Nat → Int32))) (hT : T = (Option.bind (mX7_in (Int32.toInt64 p5) (1 : Int64) (8 : Int64)) (fun u7 => (if u7 = 0 then (some ((-2 : Int32), m_rows, m_cell)) else (if p4 < 0 then (some ((-5 : Int32), m_rows, m_cell)) else (Option.bind (mX7_rowsOf p2) (fun u10 => (if p4 ≤ (u10 - p5) then (if p1 < 0 ∨ 4 ≤ (Int32.toNatClampNeg p1) then none else (mlX7_copy_96 p1 p2 p3 p4 p5 (fun (m_cell_150 : Nat → Int32) => (some (p5, upd m_rows (Int32.toNatClampNeg p1) p5, m_cell_150))) kN (0 : Int32) m_cell)) else (some ((-5 : Int32), m_rows, m_cell)))))))))) : mX7_copy m_rows m_cell p1 p2 p3 p4 p5 = Option.bind (mX7_isTablet p1) (fun u1 => if u1 = 0 then some ((-1 : Int32), m_rows, m_cell) else Option.bind (mX7_in (Int32.toInt64 p2) (0 : Int64) (3 : Int64)) (fun u3 => if u3 = 0 then some ((-2 : Int32), m_rows, m_cell) else if p2 = 0 then Option.bind (mX7_in (Int32.toInt64 p3) (1 : Int64) (59 : Int64)) (fun u5 => if u5 = 0 then some ((-2 : Int32), m_rows, m_cell) else T) else Option.bind (mX7_in (Int32.toInt64 p3) (0 : Int64) (0 : Int64)) (fun u5 => if u5 = 0 then some ((-2 : Int32), m_rows, m_cell) else T))) := by
  subst hT
  rw [mX7_copy]
  simp only [md_jnP, md_letP]
  by_cases h : p2 = 0
  · simp only [if_pos h]
  · simp only [if_neg h]
/-- copy -/
theorem op_copy {t : Nat} (ht : t < 4) {cells six m_rows m_cell : Nat → Int32} {rows : Int32} (h : tabRel t cells six rows m_rows m_cell) (p2 p3 p4 p5 : Int32) : ∃ r cells' six' rows' m_rows' m_cell', mX6_copy_i cells six rows (nI t) p2 p3 p4 p5 = some (r, cells', six', rows') ∧ mX7_copy m_rows m_cell (nI t) p2 p3 p4 p5 = some (r, m_rows', m_cell') ∧ tabRel t cells' six' rows' m_rows' m_cell' ∧ frm t m_cell m_cell' ∧ ∀ u, u ≠ t → m_rows' u = m_rows u := by
  have hno : mX2_isTable p2 p3 = some 0 → mX7_copy m_rows m_cell (nI t) p2 p3 p4 p5 = some (-2, m_rows, m_cell) → ∃ r cells' six' rows' m_rows' m_cell', mX6_copy_i cells six rows (nI t) p2 p3 p4 p5 = some (r, cells', six', rows') ∧ mX7_copy m_rows m_cell (nI t) p2 p3 p4 p5 = some (r, m_rows', m_cell') ∧ tabRel t cells' six' rows' m_rows' m_cell' ∧ frm t m_cell m_cell' ∧ ∀ u, u ≠ t → m_rows' u = m_rows u := by
    intro g1 g2
    refine ⟨-2, cells, six, rows, m_rows, m_cell, ?_, g2, h, frm_refl _ _, fun _ _ => rfl⟩
    rw [mX6_copy_i, g1]; rfl
  have hst := cpo_step m_rows m_cell (nI t) p2 p3 p4 p5 _ rfl
  rw [q_isT ht, Option.bind_some, if_neg h10, show (3 : Int64) = lN 3 from rfl] at hst
  rcases q_inI p2 (n := 3) (by decide) with ⟨hz, hc, -⟩ | ⟨K, hK, rfl, hz⟩
  · refine hno ?_ (hst.trans (by rw [hz]; rfl))
    rw [mX2_isTable]
    by_cases h0 : p2 = 0
    · subst h0
      rcases hc with hc | hc
      · exact absurd hc (by decide)
      · exact absurd hc (by decide)
    · rw [if_neg h0]
      by_cases h1 : p2 ≤ 0
      · rw [if_pos h1]
      · rw [if_neg h1, if_pos]
        rcases hc with hc | hc
        · exfalso
          rw [Int32.lt_iff_toInt_lt] at hc
          rw [Int32.le_iff_toInt_le] at h1
          omega
        · exact hc
  · rw [hz, Option.bind_some, if_neg h10] at hst
    by_cases hK0 : K = 0
    · subst hK0
      rw [if_pos nI_0, show (1 : Int64) = lN 1 from rfl, show (59 : Int64) = lN 59 from rfl] at hst
      rcases q_inR p3 (a := 1) (b := 59) (by decide) (by decide) with ⟨hy, hd⟩ | ⟨N, hN1, hN2, rfl, hy⟩
      · refine hno ?_ (hst.trans (by rw [hy]; rfl))
        rw [mX2_isTable, if_pos nI_0]
        by_cases h1 : p3 < 1
        · rw [if_pos h1]
        · rw [if_neg h1, if_pos (show (59 : Int32) < p3 from hd.resolve_left h1)]
      · rw [hy, Option.bind_some, if_neg h10] at hst
        rw [hst, mX6_copy_i, mX2_isTable, if_pos nI_0, if_neg (show ¬ nI N < (1 : Int32) from ilt_nlt ((nI_leI (a := 1) (by decide) (by omega)).mpr hN1)), if_neg (show ¬ (59 : Int32) < nI N from ilt_nlt ((nI_leI (b := 59) (by omega) (by decide)).mpr hN2)), Option.bind_some, if_neg h10]
        exact cp_tail ht (.inl ⟨rfl, hN1, hN2⟩) h p4 p5
    · have hok : okT K 0 := by
        have : K = 1 ∨ K = 2 ∨ K = 3 := by omega
        rcases this with rfl | rfl | rfl
        · exact .inr (.inl ⟨rfl, rfl⟩)
        · exact .inr (.inr (.inl ⟨rfl, rfl⟩))
        · exact .inr (.inr (.inr ⟨rfl, rfl⟩))
      rw [if_neg (nI_ne0 (by omega) (by omega)), show (0 : Int64) = lN 0 from rfl] at hst
      have i1 : mX2_isTable (nI K) p3 = if p3 = 0 then some 1 else some 0 := by
        rw [mX2_isTable, if_neg (nI_ne0 (by omega) (by omega)), if_neg (nI_nle (by omega) (by omega)), if_neg (show ¬ (4 : Int32) ≤ nI K from fun q => by have := (nI_leI (a := 4) (by decide) (by omega)).mp q; omega)]
      rcases q_inR p3 (a := 0) (b := 0) (by decide) (by decide) with ⟨hy, hd⟩ | ⟨N, hN1, hN2, rfl, hy⟩
      · refine hno ?_ (hst.trans (by rw [hy]; rfl))
        rw [i1, if_neg]
        intro q
        subst q
        rcases hd with hd | hd
        · exact absurd hd (by decide)
        · exact absurd hd (by decide)
      · obtain rfl : N = 0 := by omega
        rw [hy, Option.bind_some, if_neg h10] at hst
        rw [hst, mX6_copy_i, i1, if_pos nI_0, Option.bind_some, if_neg h10]
        exact cp_tail ht hok h p4 p5
theorem op_copy_o {x : Int32} (hx : x < 0 ∨ nI 4 ≤ x) (m_rows m_cell : Nat → Int32) (p2 p3 p4 p5 : Int32) : mX7_copy m_rows m_cell x p2 p3 p4 p5 = some (-1, m_rows, m_cell) := by
  rw [mX7_copy, q_isTo hx]; rfl
