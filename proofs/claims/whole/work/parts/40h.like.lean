/-! LIKES: the digits that are not 0, from the first on (hl), from the last on (ll) -/
def hl : Nat → Nat → List Nat
  | 0, _ => []
  | k + 1, v => if v / 60 ^ k % 60 = 0 then hl k v else (v / 60 ^ k % 60) :: hl k v
def ll : Nat → Nat → List Nat
  | 0, _ => []
  | k + 1, v => if v % 60 = 0 then ll k (v / 60) else (v % 60) :: ll k (v / 60)
theorem hl_low (v : Nat) : ∀ k, hl (k + 1) v = hl k (v / 60) ++ (if v % 60 = 0 then [] else [v % 60]) := by
  intro k
  induction k with
  | zero =>
    rw [show hl (0 + 1) v = if v / 60 ^ 0 % 60 = 0 then hl 0 v else (v / 60 ^ 0 % 60) :: hl 0 v from rfl, Nat.pow_zero, Nat.div_one]
    split <;> rfl
  | succ k ih =>
    rw [hl, ih, hl]
    have e : v / 60 ^ (k + 1) = v / 60 / 60 ^ k := by rw [Nat.div_div_eq_div_mul, Nat.pow_succ, Nat.mul_comm]
    rw [e]
    split
    · rfl
    · rfl
theorem hl_ll : ∀ (k v : Nat), hl k v = (ll k v).reverse := by
  intro k
  induction k with
  | zero => intro v; rfl
  | succ k ih =>
    intro v
    rw [hl_low, ll, ih]
    split
    · rw [List.append_nil]
    · rw [List.reverse_cons]
theorem ll_rng : ∀ (k v d : Nat), d ∈ ll k v → 1 ≤ d ∧ d < 60 := by
  intro k
  induction k with
  | zero => intro v d h; cases h
  | succ k ih =>
    intro v d h
    rw [ll] at h
    split at h
    · exact ih _ _ h
    · rcases List.mem_cons.mp h with e | e
      · have := Nat.mod_lt v (show 0 < 60 by decide); omega
      · exact ih _ _ e
theorem ll_len : ∀ (k v : Nat), (ll k v).length ≤ k := by
  intro k
  induction k with
  | zero => intro v; exact Nat.le_refl _
  | succ k ih => intro v; rw [ll]; split; have := ih (v / 60); omega; rw [List.length_cons]; have := ih (v / 60); omega
theorem ll_0 : ∀ k, ll k 0 = [] := by
  intro k
  induction k with
  | zero => rfl
  | succ k ih => rw [ll, if_pos (by decide)]; exact ih
/-- the sight by the reference -/
theorem q_so_loop (n : Nat) (hn : n < 2 ^ 62) (i : Int32) (kE : Int32 → Option Int32) : ∀ (k f c : Nat), k ≤ 8 → k < f → mlX7_sightOf_10 (lN n) i kE f (nI c) (nI k - 1) = la i kE (hl k n) c := by
  intro k
  induction k with
  | zero =>
    intro f c _ hf
    obtain ⟨f, rfl⟩ : ∃ z, f = z + 1 := ⟨f - 1, by omega⟩
    rw [mlX7_sightOf_10, if_pos (by decide)]
    rfl
  | succ k ih =>
    intro f c h8 hf
    obtain ⟨f, rfl⟩ : ∃ z, f = z + 1 := ⟨f - 1, by omega⟩
    have e1 : nI k + (-1 : Int32) = nI k - 1 := by rw [Int32.sub_eq_add_neg]
    have e4 : nI c + (1 : Int32) = nI (c + 1) := nI_1 c
    have hd : n / 60 ^ k % 60 < 60 := Nat.mod_lt _ (by decide)
    rw [nI_pred, mlX7_sightOf_10, if_neg (nI_pos (by omega)), q_digitAt hn (by omega), hl]
    simp only [Option.bind_some, md_jn, md_let, e1, e4]
    by_cases h0 : n / 60 ^ k % 60 = 0
    · rw [if_pos (show nI (n / 60 ^ k % 60) ≤ 0 from by rw [h0]; decide), if_pos h0]
      exact ih f c (by omega) (by omega)
    · rw [if_neg (nI_nle (by omega) (by omega)), if_neg h0, la, ih f (c + 1) (by omega) (by omega)]
theorem ln_top : ∀ (k v m : Nat), v < 60 ^ k → lnF k v ≤ m → v < 60 ^ m := by
  intro k
  induction k with
  | zero => intro v m h _; have : v = 0 := by simp at h; exact h
            rw [this]; exact Nat.pow_pos (by decide)
  | succ k ih =>
    intro v m h hm
    rw [lnF] at hm
    split at hm
    · rename_i h0; rw [h0]; exact Nat.pow_pos (by decide)
    · obtain ⟨m, rfl⟩ : ∃ z, m = z + 1 := ⟨m - 1, by omega⟩
      have := ih (v / 60) m (by rw [Nat.pow_succ] at h; omega) (by omega)
      rw [Nat.pow_succ]; omega
theorem hl_up {v m : Nat} (h : v < 60 ^ m) : ∀ d, hl (m + d) v = hl m v := by
  intro d
  induction d with
  | zero => rfl
  | succ d ih =>
    have : v / 60 ^ (m + d) = 0 := Nat.div_eq_of_lt (Nat.lt_of_lt_of_le h (Nat.pow_le_pow_right (by decide) (by omega)))
    rw [← Nat.add_assoc, hl, this, if_pos (by decide), ih]
theorem hl_ln {v : Nat} (h : v < 167961600000000) : hl (ln v) v = hl 8 v := by
  have h1 := ln_top 8 v (ln v) (by rw [e60_8]; exact h) (Nat.le_refl _)
  have h2 := hl_up h1 (8 - ln v)
  rw [show ln v + (8 - ln v) = 8 by have := ln_le v; omega] at h2
  exact h2.symm
def sc (v : Nat) : Nat := (ll 8 v).length
theorem q_so {v : Nat} (hv : v < 167961600000000) (i : Int32) : mX7_sightOf (lN v) i = la i (fun y => if i = (-1 : Int32) then some y else some (-6 : Int32)) (ll 8 v).reverse 0 := by
  rw [mX7_sightOf, q_digits hv, Option.bind_some, md_let]
  have := q_so_loop v (by omega) i (fun y => if i = (-1 : Int32) then some y else some (-6 : Int32)) (ln v) kN 0 (ln_le v) (by have := ln_le v; have : kN = 5000 := rfl; omega)
  rw [hl_ln hv, hl_ll] at this
  exact this
theorem q_so_cnt {v : Nat} (hv : v < 167961600000000) : mX7_sightOf (lN v) (-1) = some (nI (sc v)) := by
  rw [q_so hv, la_miss]
  · rw [if_pos rfl, Nat.zero_add, List.length_reverse]; rfl
  · intro j hj e
    rw [List.length_reverse] at hj
    have := ll_len 8 v
    have h2 : (-1 : Int32).toInt = (nI (0 + j)).toInt := by rw [e]
    rw [nI_toInt (by omega)] at h2
    have e2 : (-1 : Int32).toInt = -1 := by decide
    omega
/-- the j-th from the last -/
theorem q_so_at {v j : Nat} (hv : v < 167961600000000) (hj : j < sc v) : mX7_sightOf (lN v) (nI (sc v - 1 - j)) = some (nI ((ll 8 v).getD j 0)) := by
  have hl8 := ll_len 8 v
  have hj : j < (ll 8 v).length := hj
  rw [q_so hv]
  have := la_hit (fun y => if nI (sc v - 1 - j) = (-1 : Int32) then some y else some (-6 : Int32)) (ll 8 v).reverse 0 (sc v - 1 - j) (by rw [List.length_reverse]; have : sc v = (ll 8 v).length := rfl; omega) (by rw [List.length_reverse]; omega)
  rw [Nat.zero_add] at this
  rw [this]
  congr 2
  have e : sc v = (ll 8 v).length := rfl
  rw [List.getD_eq_getElem?_getD, List.getD_eq_getElem?_getD, List.getElem?_reverse (by omega), e]
  congr 2
  omega
/-! masks -/
def pc : Nat → Nat → Nat
  | 0, _ => 0
  | k + 1, m => m % 2 + pc k (m / 2)
theorem q_bits : ∀ m, m < 256 → ∀ p, p < 8 → (((nI m >>> (nI p &&& 31)) &&& (1 : Int32)) = 1 ↔ m / 2 ^ p % 2 = 1) := by decide +kernel
theorem q_odd : ∀ m, m < 256 → ((nI m &&& (1 : Int32)) = 1 ↔ m % 2 = 1) := by decide +kernel
theorem q_bc : ∀ m, m < 256 → mJ6_bitCount_0f7a4 (nI m) = some (nI (pc 8 m)) := by decide +kernel
theorem q_shl : ∀ d, d < 9 → ((1 : Int32) <<< (nI d &&& 31)) = nI (2 ^ d) := by decide +kernel
theorem pc_le : ∀ (k m : Nat), pc k m ≤ k := by
  intro k
  induction k with
  | zero => intro m; exact Nat.le_refl _
  | succ k ih => intro m; rw [pc]; have := ih (m / 2); omega
/-- what the digits ds are worth, put into the places of a mask from a place on -/
def sp : Nat → Nat → Nat → List Nat → Nat
  | 0, _, _, _ => 0
  | k + 1, p, m, ds => if m % 2 = 1 then ds.headD 0 * 60 ^ p + sp k (p + 1) (m / 2) ds.tail else sp k (p + 1) (m / 2) ds
/-- a number without zeros at its end, and its digits -/
def lr : List Nat → Nat → Prop
  | [], L => L = 0
  | d :: ds, L => L % 60 = d ∧ lr ds (sx (L / 60))
theorem sxF_more : ∀ (k n : Nat), n < 60 ^ k → sxF (k + 1) n = sxF k n := by
  intro k
  induction k with
  | zero =>
    intro n h
    have : n = 0 := by simp at h; exact h
    subst this
    decide
  | succ k ih =>
    intro n h
    rw [sxF]
    rw [show sxF (k + 1) n = if n % 60 = 0 then sxF k (n / 60) else n from rfl]
    split
    · exact ih _ (by rw [Nat.pow_succ] at h; omega)
    · rfl
theorem sx_60 {n : Nat} (h : n % 60 = 0) (hn : n < 167961600000000) : sx n = sx (n / 60) := by
  rw [sx, sx, sxF, if_pos h]
  exact (sxF_more 7 (n / 60) (by have : (60 : Nat) ^ 7 = 2799360000000 := by decide
                                 omega)).symm
theorem lr_ll : ∀ (k v : Nat), v < 60 ^ k → v < 167961600000000 → lr (ll k v) (sx v) := by
  intro k
  induction k with
  | zero =>
    intro v h _
    have : v = 0 := by simp at h; exact h
    subst this
    exact sx0
  | succ k ih =>
    intro v h hE
    have h2 := ih (v / 60) (by rw [Nat.pow_succ] at h; omega) (by omega)
    rw [ll]
    by_cases h0 : v % 60 = 0
    · rw [if_pos h0, sx_60 h0 hE]; exact h2
    · rw [if_neg h0, sx_self h0]; exact ⟨rfl, h2⟩
theorem lr_step {ds : List Nat} {L : Nat} (h : lr ds L) : L % 60 = ds.headD 0 ∧ lr ds.tail (sx (L / 60)) := by
  cases ds with
  | nil => have h : L = 0 := h
           subst h; exact ⟨rfl, sx0⟩
  | cons d ds => exact h
theorem q_sp_loop (m : Nat) (hm : m < 256) (kE : Int64 → Option Int64) : ∀ (k p f L a : Nat) (ds : List Nat), p + k = 8 → k < f → L < 2 ^ 62 → lr ds L → mlX1_spread_14 (nI m) kE f (lN L) (lN (60 ^ p)) (lN a) (nI p) = kE (lN (a + sp k p (m / 2 ^ p) ds)) := by
  intro k
  induction k with
  | zero =>
    intro p f L a ds hp hf hL hr
    obtain ⟨f, rfl⟩ : ∃ z, f = z + 1 := ⟨f - 1, by omega⟩
    rw [mlX1_spread_14, if_pos (show (8 : Int32) ≤ nI p from (nI_leI (a := 8) (by decide) (by omega)).mpr (by omega))]
    rfl
  | succ k ih =>
    intro p f L a ds hp hf hL hr
    obtain ⟨f, rfl⟩ : ∃ z, f = z + 1 := ⟨f - 1, by omega⟩
    obtain ⟨h1, h2⟩ := lr_step hr
    have e3 : nI p + (1 : Int32) = nI (p + 1) := nI_1 p
    have ew : lN (60 ^ p) * (60 : Int64) = lN (60 ^ (p + 1)) := by rw [Nat.pow_succ]; exact lN_mul (60 ^ p) 60
    have er : lN L - lN L / (60 : Int64) * (60 : Int64) = lN (L % 60) := pk_lRem (b := 60) (by omega) (by decide) (by decide)
    have ed : lN L / (60 : Int64) = lN (L / 60) := pk_lDiv (b := 60) (by omega) (by decide) (by decide)
    have em : m / 2 ^ p / 2 = m / 2 ^ (p + 1) := by rw [Nat.div_div_eq_div_mul, Nat.pow_succ]
    rw [mlX1_spread_14, if_neg (show ¬ (8 : Int32) ≤ nI p from fun q => by have := (nI_leI (a := 8) (by decide) (by omega)).mp q; omega), er, ed, lN_mul, lN_add]
    simp only [md_jn, md_let, e3, ew]
    rw [q_strip (by omega), Option.bind_some, sp, em]
    have hb := q_bits m hm p (by omega)
    have hsl := sx_le (L / 60)
    by_cases hq : m / 2 ^ p % 2 = 1
    · rw [if_pos (hb.mpr hq), if_pos hq, ih (p + 1) f (sx (L / 60)) (a + L % 60 * 60 ^ p) ds.tail (by omega) (by omega) (by omega) h2, h1, Nat.add_assoc]
    · rw [if_neg (fun z => hq (hb.mp z)), if_neg hq, ih (p + 1) f L a ds (by omega) (by omega) hL hr]
theorem q_spread {v m : Nat} (hv : v < 167961600000000) (hm : m < 256) : mX1_spread (lN v) (nI m) = some (lN (sp 8 0 m (ll 8 v))) := by
  have hs := sx_le v
  rw [mX1_spread, q_strip (by omega), Option.bind_some]
  have := q_sp_loop m hm (fun y => some y) 8 0 kN (sx v) 0 (ll 8 v) rfl (by decide) (by omega) (lr_ll 8 v (by rw [e60_8]; exact hv) hv)
  simp only [Nat.pow_zero, Nat.div_one, Nat.zero_add] at this
  exact this
theorem drop_hd (l : List Nat) (u : Nat) : (l.drop u).headD 0 = l.getD u 0 ∧ (l.drop u).tail = l.drop (u + 1) := by
  constructor
  · rw [List.headD_eq_head?_getD, List.head?_drop, List.getD_eq_getElem?_getD]
  · rw [List.tail_drop]
theorem md_letP {α β : Type} (e : α) (k : α → Option β) : md_let e k = k e := Eq.trans (Eq.refl (md_let e k)) (Eq.refl (k e))
theorem md_jnP {α β : Type} (F : α) (k : α → Option β) : md_jn F k = k F := Eq.trans (Eq.refl (md_jn F k)) (Eq.refl (k F))
theorem lb_step (x0 : Int64) (x2 : Int32) (kE : Int64 → Int32 → Option Int64) (n : Nat) (x4 : Int64) (x6 x7 : Int32) : mlX7_likeBy_15 x0 x2 kE (n + 1) x4 x6 x7 = (if (8 : Int32) ≤ x7 then kE x4 x6 else if ((x2 >>> (x7 &&& 31)) &&& (1 : Int32)) = (1 : Int32) then (if 0 ≤ x6 + (-1 : Int32) then Option.bind (mX7_sightOf x0 (x6 + (-1 : Int32))) (fun u8 => Option.bind (mX7_power x7) (fun u9 => mlX7_likeBy_15 x0 x2 kE n (x4 + Int32.toInt64 u8 * u9) (x6 + (-1 : Int32)) (x7 + (1 : Int32)))) else mlX7_likeBy_15 x0 x2 kE n (x4 + (0 : Int64)) (x6 + (-1 : Int32)) (x7 + (1 : Int32))) else mlX7_likeBy_15 x0 x2 kE n x4 x6 (x7 + (1 : Int32))) := by
  rw [mlX7_likeBy_15]
  simp only [md_jnP, md_letP]
theorem q_lb_loop {v : Nat} (hv : v < 167961600000000) (m : Nat) (hm : m < 256) (kE : Int64 → Int32 → Option Int64) : ∀ (k p f w u : Nat), p + k = 8 → k < f → u ≤ p → mlX7_likeBy_15 (lN v) (nI m) kE f (lN w) (nI (sc v) - nI u) (nI p) = kE (lN (w + sp k p (m / 2 ^ p) ((ll 8 v).drop u))) (nI (sc v) - nI (u + pc k (m / 2 ^ p))) := by
  intro k
  induction k with
  | zero =>
    intro p f w u hp hf hu
    obtain ⟨f, rfl⟩ : ∃ z, f = z + 1 := ⟨f - 1, by omega⟩
    rw [lb_step, if_pos (show (8 : Int32) ≤ nI p from (nI_leI (a := 8) (by decide) (by omega)).mpr (by omega)), sp, pc, Nat.add_zero, Nat.add_zero]
  | succ k ih =>
    intro p f w u hp hf hu
    obtain ⟨f, rfl⟩ : ∃ z, f = z + 1 := ⟨f - 1, by omega⟩
    have hl8 : sc v ≤ 8 := ll_len 8 v
    have e3 : nI p + (1 : Int32) = nI (p + 1) := nI_1 p
    have em : m / 2 ^ p / 2 = m / 2 ^ (p + 1) := by rw [Nat.div_div_eq_div_mul, Nat.pow_succ]
    have ea : nI (sc v) - nI u + (-1 : Int32) = nI (sc v) - nI (u + 1) := by
      rw [← nI_1 u, Int32.sub_eq_add_neg, Int32.sub_eq_add_neg, Int32.neg_add, Int32.sub_eq_add_neg, Int32.add_assoc]
    obtain ⟨d1, d2⟩ := drop_hd (ll 8 v) u
    rw [lb_step, if_neg (show ¬ (8 : Int32) ≤ nI p from fun q => by have := (nI_leI (a := 8) (by decide) (by omega)).mp q; omega), e3, ea, sp, pc, em, d1, d2, q_power (by omega)]
    have hb := q_bits m hm p (by omega)
    by_cases hq : m / 2 ^ p % 2 = 1
    · rw [if_pos (hb.mpr hq), if_pos hq, hq]
      by_cases hs : u + 1 ≤ sc v
      · have es : nI (sc v) - nI (u + 1) = nI (sc v - 1 - u) := by rw [pk_sub hs]; congr 1; omega
        have hg : (ll 8 v).getD u 0 < 60 := by
          have hu8 : u < (ll 8 v).length := hs
          rw [List.getD_eq_getElem?_getD, List.getElem?_eq_getElem hu8]
          exact (ll_rng 8 v _ (List.getElem_mem hu8)).2
        rw [if_pos (show (0 : Int32) ≤ nI (sc v) - nI (u + 1) from by rw [es]; exact nI_pos' (by omega))]
        rw [show mX7_sightOf (lN v) (nI (sc v) - nI (u + 1)) = some (nI ((ll 8 v).getD u 0)) from by rw [es]; exact q_so_at hv hs]
        simp only [Option.bind_some]
        rw [show Int32.toInt64 (nI ((ll 8 v).getD u 0)) = lN ((ll 8 v).getD u 0) from nI_l (by omega), lN_mul, lN_add, ih (p + 1) f _ (u + 1) (by omega) (by omega) (by omega), Nat.add_assoc w, show u + 1 + pc k (m / 2 ^ (p + 1)) = u + (1 + pc k (m / 2 ^ (p + 1))) by omega]
      · have hneg : ¬ (0 : Int32) ≤ nI (sc v) - nI (u + 1) := by
          have := pk_sneg (a := sc v) (b := u + 1) (by omega) (by omega)
          rw [Int32.lt_iff_toInt_lt] at this
          rw [Int32.le_iff_toInt_le]
          omega
        have hz : (ll 8 v).getD u 0 = 0 := by
          rw [List.getD_eq_getElem?_getD, List.getElem?_eq_none (by have : sc v = (ll 8 v).length := rfl; omega)]; rfl
        have e0 : lN w + (0 : Int64) = lN w := lN_add w 0
        rw [if_neg hneg, e0, ih (p + 1) f w (u + 1) (by omega) (by omega) (by omega), hz, Nat.zero_mul, Nat.zero_add, show u + 1 + pc k (m / 2 ^ (p + 1)) = u + (1 + pc k (m / 2 ^ (p + 1))) by omega]
    · have hq0 : m / 2 ^ p % 2 = 0 := by omega
      rw [if_neg (fun z => hq (hb.mp z)), if_neg hq, ih (p + 1) f w u (by omega) (by omega) (by omega), hq0, Nat.zero_add]
theorem q_lb {v m : Nat} (hv : v < 167961600000000) (hm : m < 256) : mX7_likeBy (lN v) (nI m) = some (if sc v = pc 8 m ∧ m % 2 = 1 then lN (sp 8 0 m (ll 8 v)) else -1) := by
  have hl8 : sc v ≤ 8 := ll_len 8 v
  have hp8 := pc_le 8 m
  rw [mX7_likeBy, q_so_cnt hv, Option.bind_some]
  have := q_lb_loop hv m hm (fun (y4_68 : Int64) (y6_68 : Int32) => (if y6_68 = 0 then (if (nI m &&& (1 : Int32)) = (1 : Int32) then (some y4_68) else (some (-1 : Int64))) else (some (-1 : Int64)))) 8 0 kN 0 0 rfl (by decide) (Nat.le_refl _)
  simp only [Nat.pow_zero, Nat.div_one, Nat.zero_add, List.drop_zero] at this
  have e0 : nI (sc v) - nI 0 = nI (sc v) := by rw [pk_sub (by omega)]; rfl
  rw [e0] at this
  refine Eq.trans this ?_
  have ho := q_odd m hm
  by_cases h1 : sc v = pc 8 m
  · rw [if_pos (show nI (sc v) - nI (pc 8 m) = 0 from by rw [h1, pk_sub (Nat.le_refl _), Nat.sub_self]; rfl)]
    by_cases h2 : m % 2 = 1
    · rw [if_pos (ho.mpr h2), if_pos ⟨h1, h2⟩]
    · rw [if_neg (fun z => h2 (ho.mp z)), if_neg (fun z => h2 z.2)]
  · rw [if_neg, if_neg (fun z => h1 z.1)]
    intro q
    have h3 := pk_sub_toInt (a := sc v) (b := pc 8 m) (by omega) (by omega)
    rw [q] at h3
    have ez : (0 : Int32).toInt = 0 := by decide
    omega
theorem sp_lt : ∀ (k p m : Nat) (ds : List Nat), (∀ d ∈ ds, d < 60) → sp k p m ds + 60 ^ p ≤ 60 ^ (p + k) := by
  intro k
  induction k with
  | zero => intro p m ds _; rw [sp, Nat.add_zero, Nat.zero_add]; exact Nat.le_refl _
  | succ k ih =>
    intro p m ds h
    have e : 60 ^ (p + 1) = 60 * 60 ^ p := by rw [Nat.pow_succ, Nat.mul_comm]
    have e2 : p + (k + 1) = p + 1 + k := by omega
    have hpp : 0 < 60 ^ p := Nat.pow_pos (by decide)
    rw [sp, e2]
    split
    · have h2 := ih (p + 1) (m / 2) ds.tail (fun d hd => h d (List.mem_of_mem_tail hd))
      have hh : ds.headD 0 ≤ 59 := by
        cases ds with
        | nil => exact Nat.zero_le _
        | cons d ds => have := h d List.mem_cons_self; exact (by omega : d ≤ 59)
      have := Nat.mul_le_mul_right (60 ^ p) hh
      omega
    · have h2 := ih (p + 1) (m / 2) ds h
      omega
