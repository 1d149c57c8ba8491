/-! SURE, FILL -/
def sT (w c : Nat) : Nat := sx (tn (kO w) (nO w) (fO w + c / 3) (c % 3))
def kc_ (f : Nat → Int32) : Nat → Nat
  | 0 => 0
  | n + 1 => kc_ f n + (if f n = 0 then 0 else 1)
theorem kc_le (f : Nat → Int32) : ∀ n, kc_ f n ≤ n := by
  intro n
  induction n with
  | zero => exact Nat.le_refl _
  | succ n ih => rw [kc_]; split <;> omega
theorem kc_congr {f g : Nat → Int32} : ∀ n, (∀ c, c < n → f c = g c) → kc_ f n = kc_ g n := by
  intro n
  induction n with
  | zero => intro _; rfl
  | succ n ih => intro h; rw [kc_, kc_, ih (fun c hc => h c (by omega)), h n (by omega)]
theorem kc_nz {cells ce : Nat → Int32} : ∀ n, (∀ c, c < n → cv cells c ≠ 0 → ce c ≠ 0) → nz cells n ≤ kc_ ce n ∧ (kc_ ce n ≤ nz cells n → ∀ c, c < n → cv cells c = 0 → ce c = 0) := by
  intro n
  induction n with
  | zero => intro _; exact ⟨Nat.le_refl _, fun _ c hc => absurd hc (by omega)⟩
  | succ n ih =>
    intro h
    obtain ⟨a, b⟩ := ih (fun c hc => h c (by omega))
    rw [nz, kc_]
    by_cases h0 : cv cells n = 0
    · rw [if_pos h0]
      by_cases h1 : ce n = 0
      · rw [if_pos h1]
        refine ⟨by omega, fun q c hc hz => ?_⟩
        by_cases e : c = n
        · subst e; exact h1
        · exact b (by omega) c (by omega) hz
      · rw [if_neg h1]
        exact ⟨by omega, fun q => by omega⟩
    · rw [if_neg h0, if_neg (h n (by omega) h0)]
      refine ⟨by omega, fun q c hc hz => ?_⟩
      by_cases e : c = n
      · subst e; exact absurd hz h0
      · exact b (by omega) c (by omega) hz
theorem sT_rng {r w c : Nat} (hw : w < 3609) (hf : fit r w) (hc : c < 3 * r) : 1 ≤ sT w c ∧ sT w c ≤ 12959999 := by
  rw [fit] at hf
  have := tn_rng (ok_w hw).1 (row := fO w + c / 3) (col := c % 3) (by omega) (by omega)
  have h1 := sx_le (tn (kO w) (nO w) (fO w + c / 3) (c % 3))
  have h2 := sx_pos this.1
  rw [sT]
  omega
theorem q_shW {r w c : Nat} (hr8 : r ≤ 8) (hw : w < 3609) (hf : fit r w) (hc : c < 3 * r) : mX0_sixtyHere (nI (kO w)) (nI (nO w)) (nI (fO w)) (nI c / (3 : Int32)) (nI c - nI c / (3 : Int32) * (3 : Int32)) = some (nI (sT w c)) := by
  rw [fit] at hf
  rw [show nI c - nI c / (3 : Int32) * (3 : Int32) = nI (c % 3) from pk_rem (d := 3) (by omega) (by decide) (by decide), show nI c / (3 : Int32) = nI (c / 3) from pk_div (d := 3) (by omega) (by decide) (by decide), q_sh (ok_w hw).1 (by omega) (by omega), sT]
section SURE
variable {t r k : Nat} {cells six m_rows m_cell hr hc hs : Nat → Int32}
/-- what is sure so far, of both -/
def suR (r : Nat) (cells ce su : Nat → Int32) : Prop := (∀ c, c < 3 * r → ((∃ v, 1 ≤ v ∧ v ≤ 12959999 ∧ ce c = nI v ∧ su c = nI v ∧ (cv cells c ≠ 0 → v = sx (cv cells c))) ∨ (cv cells c = 0 ∧ ce c = 0 ∧ su c = -1)))
theorem ag_eq {w : Nat} (h : agW cells r w) {c : Nat} (hc : c < 3 * r) (hn : cv cells c ≠ 0) : sx (cv cells c) = sT w c := by
  have := h.2 c hc
  rw [bad] at this
  rw [sT]
  exact Classical.byContradiction (fun q => this ⟨hn, q⟩)
/-- one more reading -/
theorem su_next {w : Nat} (hr8 : r ≤ 8) (hw : w < 3609) (h : agW cells r w) {ce su ce' su' : Nat → Int32} (hS : suR r cells ce su) (h1 : ∀ c, c < 3 * r → ce' c = if ce c = nI (sT w c) then ce c else 0) (h2 : ∀ c, c < 3 * r → su' c = if su c = 0 ∨ su c = nI (sT w c) then nI (sT w c) else -1) : suR r cells ce' su' := by
  intro c hc
  have hT := sT_rng hw h.1 hc
  rw [h1 c hc, h2 c hc]
  rcases hS c hc with ⟨v, v1, v2, v3, v4, v5⟩ | ⟨v1, v2, v3⟩
  · rw [v3, v4]
    by_cases e : v = sT w c
    · left
      rw [if_pos (by rw [e]), if_pos (.inr (by rw [e]))]
      exact ⟨v, v1, v2, rfl, by rw [e], v5⟩
    · right
      have n1 : ¬ nI v = nI (sT w c) := fun q => e ((nI_eq (by omega) (by omega)).mp q)
      have n2 : ¬ nI v = 0 := nI_ne0 (by omega) (by omega)
      rw [if_neg n1, if_neg (fun q => q.elim n2 n1)]
      refine ⟨Classical.byContradiction (fun q => ?_), rfl, rfl⟩
      exact e ((v5 q).trans (ag_eq h hc q))
  · right
    have n1 : ¬ (0 : Int32) = nI (sT w c) := fun q => nI_ne0 (n := sT w c) (by omega) (by omega) q.symm
    have n2 : ¬ (-1 : Int32) = nI (sT w c) := fun q => nI_m1 (n := sT w c) (by omega) q.symm
    rw [v2, v3, if_neg n1, if_neg (fun q => q.elim (by decide) n2)]
    exact ⟨v1, rfl, rfl⟩
/-- one more reading, where no broken cell is sure -/
theorem su_dead {w : Nat} (hr8 : r ≤ 8) (hw : w < 3609) (h : agW cells r w) {ce su su' : Nat → Int32} (hS : suR r cells ce su) (hd : ∀ c, c < 3 * r → cv cells c = 0 → ce c = 0) (h2 : ∀ c, c < 3 * r → su' c = if su c = 0 ∨ su c = nI (sT w c) then nI (sT w c) else -1) : suR r cells ce su' := by
  intro c hc
  have hT := sT_rng hw h.1 hc
  rw [h2 c hc]
  rcases hS c hc with ⟨v, v1, v2, v3, v4, v5⟩ | ⟨v1, v2, v3⟩
  · left
    have hn : cv cells c ≠ 0 := fun q => by
      have := hd c hc q
      rw [v3] at this
      exact nI_ne0 (n := v) (by omega) (by omega) this
    have e : v = sT w c := (v5 hn).trans (ag_eq h hc hn)
    refine ⟨v, v1, v2, v3, ?_, v5⟩
    rw [v4, if_pos (.inr (by rw [e])), e]
  · right
    have n2 : ¬ (-1 : Int32) = nI (sT w c) := fun q => nI_m1 (n := sT w c) (by omega) q.symm
    rw [v3, if_neg (fun q => q.elim (by decide) n2)]
    exact ⟨v1, v2, rfl⟩
theorem ls_step (x1 x2 : Int32) (mr : Nat → Int32) (kE : (Nat → Int32) → (Nat → Int32) → Option ((Nat → Int32) × (Nat → Int32))) (n : Nat) (x3 : Int32) (o su : Nat → Int32) (h3 : ¬ (x3 < 0 ∨ 24 ≤ x3.toNatClampNeg)) : mlX7_laySure_41 x1 x2 mr kE (n + 1) x3 o su = (if x1 < 0 ∨ 4 ≤ x1.toNatClampNeg then none else if (3 : Int32) * mr x1.toNatClampNeg ≤ x3 then kE o su else Option.bind (mX7_kindOf x2) (fun u10 => Option.bind (mX7_nOf x2) (fun u11 => Option.bind (mX7_firstOf x2) (fun u12 => Option.bind (mX7_tableAt o u10 u11 (u12 + x3 / (3 : Int32)) (x3 - x3 / (3 : Int32) * (3 : Int32))) (fun u13 => Option.bind (mX7_sixtyOf (Int32.toInt64 u13.1)) (fun u14 => if su x3.toNatClampNeg = 0 then mlX7_laySure_41 x1 x2 mr kE n (x3 + 1) u13.2 (upd su x3.toNatClampNeg (Int64.toInt32 u14)) else if su x3.toNatClampNeg = Int64.toInt32 u14 then mlX7_laySure_41 x1 x2 mr kE n (x3 + 1) u13.2 (upd su x3.toNatClampNeg (Int64.toInt32 u14)) else mlX7_laySure_41 x1 x2 mr kE n (x3 + 1) u13.2 (upd su x3.toNatClampNeg (-1)))))))) := by
  rw [mlX7_laySure_41]
  simp only [md_jnP, md_letP, if_neg h3]
theorem q_ls_loop (ht : t < 4) (hr8 : r ≤ 8) (hm : m_rows t = nI r) {w : Nat} (hw : w < 3609) (hf : fit r w) (su0 : Nat → Int32) (kE : (Nat → Int32) → (Nat → Int32) → Option ((Nat → Int32) × (Nat → Int32))) : ∀ (d i f : Nat) (o su : Nat → Int32), i + d = 3 * r → d < f → overRel o → (∀ c, c < i → su c = if su0 c = 0 ∨ su0 c = nI (sT w c) then nI (sT w c) else -1) → (∀ c, i ≤ c → su c = su0 c) → ∃ o' su', overRel o' ∧ mlX7_laySure_41 (nI t) (nI w) m_rows kE f (nI i) o su = kE o' su' ∧ (∀ c, c < 3 * r → su' c = if su0 c = 0 ∨ su0 c = nI (sT w c) then nI (sT w c) else -1) ∧ ∀ c, 3 * r ≤ c → su' c = su0 c := by
  intro d
  induction d with
  | zero =>
    intro i f o su hi hfu ho h1 h2
    obtain ⟨f, rfl⟩ : ∃ z, f = z + 1 := ⟨f - 1, by omega⟩
    obtain rfl : i = 3 * r := by omega
    refine ⟨o, su, ho, ?_, h1, h2⟩
    rw [mlX7_laySure_41, if_neg (nI_in ht (by decide)), nI_clamp (by omega), hm, show (3 : Int32) * nI r = nI (3 * r) from pk_mul 3 r, if_pos ((nI_leI (by omega) (by omega)).mpr (Nat.le_refl _))]
  | succ d ih =>
    intro i f o su hi hfu ho h1 h2
    obtain ⟨f, rfl⟩ : ∃ z, f = z + 1 := ⟨f - 1, by omega⟩
    have hf' := hf
    rw [fit] at hf'
    obtain ⟨a, b, c⟩ := q_way hw
    obtain ⟨o1, t1, t2⟩ := q_tableAt ho (ok_w hw).1 (row := fO w + i / 3) (col := i % 3) (by omega) (by omega)
    have hv := tn_rng (ok_w hw).1 (row := fO w + i / 3) (col := i % 3) (by omega) (by omega)
    have hs0 := h2 i (Nat.le_refl _)
    rw [ls_step _ _ _ _ _ _ _ _ (nI_in (N := 24) (by omega) (by decide)), if_neg (nI_in ht (by decide)), nI_clamp (n := t) (by omega), nI_clamp (n := i) (by omega), hm, show (3 : Int32) * nI r = nI (3 * r) from pk_mul 3 r, if_neg (show ¬ nI (3 * r) ≤ nI i from fun q => by have := (nI_leI (by omega) (by omega)).mp q; omega), a, b, c, Option.bind_some, Option.bind_some, Option.bind_some, show nI i - nI i / (3 : Int32) * (3 : Int32) = nI (i % 3) from pk_rem (d := 3) (by omega) (by decide) (by decide), show nI i / (3 : Int32) = nI (i / 3) from pk_div (d := 3) (by omega) (by decide) (by decide), nI_add, t1, Option.bind_some, nI_l (by omega), q_six hv.1 (by omega), Option.bind_some, lN_i, show nI i + (1 : Int32) = nI (i + 1) from nI_1 i, hs0]
    have hsT : sx (tn (kO w) (nO w) (fO w + i / 3) (i % 3)) = sT w i := rfl
    rw [hsT]
    have go : ∀ x, (x = if su0 i = 0 ∨ su0 i = nI (sT w i) then nI (sT w i) else -1) → ∃ o' su', overRel o' ∧ mlX7_laySure_41 (nI t) (nI w) m_rows kE f (nI (i + 1)) o1 (upd su i x) = kE o' su' ∧ (∀ c, c < 3 * r → su' c = if su0 c = 0 ∨ su0 c = nI (sT w c) then nI (sT w c) else -1) ∧ ∀ c, 3 * r ≤ c → su' c = su0 c := by
      intro x hx
      refine ih (i + 1) f o1 (upd su i x) (by omega) (by omega) t2 (fun c hc => ?_) (fun c hc => ?_)
      · by_cases e : c = i
        · subst e; rw [pk_us]; exact hx
        · rw [pk_un e]; exact h1 c (by omega)
      · rw [pk_un (by omega)]; exact h2 c (by omega)
    by_cases q0 : su0 i = 0
    · rw [if_pos q0]
      exact go _ (by rw [if_pos (.inl q0)])
    · rw [if_neg q0]
      by_cases q1 : su0 i = nI (sT w i)
      · rw [if_pos q1]
        exact go _ (by rw [if_pos (.inr q1)])
      · rw [if_neg q1]
        exact go _ (by rw [if_neg (fun q => q.elim q0 q1)])
theorem q_ls_skip (ht : t < 4) (hr8 : r ≤ 8) (hm : m_rows t = nI r) (hC : cellRel t r cells six m_cell) (kF : (Nat → Int32) → (Nat → Int32) → Option ((Nat → Int32) × (Nat → Int32))) (su : Nat → Int32) : ∀ (d w g : Nat) (o : Nat → Int32), w + d ≤ 3609 → (∀ x, w ≤ x → x < w + d → ¬ agW cells r x) → overRel o → ∃ o', overRel o' ∧ mlX7_laySure_23 (nI t) m_rows m_cell kF (g + d) (nI w) o su = mlX7_laySure_23 (nI t) m_rows m_cell kF g (nI (w + d)) o' su := by
  intro d
  induction d with
  | zero => intro w g o _ _ ho; exact ⟨o, ho, rfl⟩
  | succ d ih =>
    intro w g o hw hn ho
    rw [show g + (d + 1) = (g + d) + 1 by omega, mlX7_laySure_23, if_neg (show ¬ (3609 : Int32) ≤ nI w from fun z => by have := (nI_leI (a := 3609) (by decide) (by omega)).mp z; omega)]
    obtain ⟨o1, p1, p2⟩ := q_reads ht hr8 hm hC ho (w := w) (by omega)
    rcases p2 with ⟨q, -⟩ | ⟨-, q⟩
    · exact absurd q (hn w (Nat.le_refl _) (by omega))
    · rw [q, Option.bind_some, if_pos (show (0 : Int32) = 0 from rfl), md_letP, show nI w + (1 : Int32) = nI (w + 1) from nI_1 w]
      obtain ⟨o2, r1, r2⟩ := ih (w + 1) g o1 (by omega) (fun x q1 q2 => hn x (by omega) (by omega)) p1
      refine ⟨o2, r1, ?_⟩
      rw [r2, show w + 1 + d = w + (d + 1) by omega]
/-- a way that reads -/
theorem q_ls_one (ht : t < 4) (hr8 : r ≤ 8) (hm : m_rows t = nI r) (hC : cellRel t r cells six m_cell) (kF : (Nat → Int32) → (Nat → Int32) → Option ((Nat → Int32) × (Nat → Int32))) {w : Nat} (hw : w < 3609) (hag : agW cells r w) (g : Nat) {o : Nat → Int32} (ho : overRel o) (su : Nat → Int32) : ∃ o' su', overRel o' ∧ mlX7_laySure_23 (nI t) m_rows m_cell kF (g + 1) (nI w) o su = mlX7_laySure_23 (nI t) m_rows m_cell kF g (nI (w + 1)) o' su' ∧ (∀ c, c < 3 * r → su' c = if su c = 0 ∨ su c = nI (sT w c) then nI (sT w c) else -1) ∧ ∀ c, 3 * r ≤ c → su' c = su c := by
  rw [mlX7_laySure_23, if_neg (show ¬ (3609 : Int32) ≤ nI w from fun z => by have := (nI_leI (a := 3609) (by decide) (by omega)).mp z; omega)]
  obtain ⟨o1, p1, p2⟩ := q_reads ht hr8 hm hC ho hw
  have p2 := p2.resolve_right (fun q => q.1 hag)
  rw [p2.2, Option.bind_some, if_neg h10]
  obtain ⟨o2, su2, q1, q2, q3, q4⟩ := q_ls_loop ht hr8 hm hw hag.1 su (fun (m_overs_121 : Nat → Int32) (m_sure_121 : Nat → Int32) => (md_let (nI w + (1 : Int32)) (fun (x2_22 : Int32) => (mlX7_laySure_23 (nI t) m_rows m_cell kF g x2_22 m_overs_121 m_sure_121)))) (3 * r) 0 kN o1 su (by omega) (by have : kN = 5000 := rfl; omega) p1 (fun c hc => absurd hc (by omega)) (fun c _ => rfl)
  refine ⟨o2, su2, q1, ?_, q3, q4⟩
  rw [show (0 : Int32) = nI 0 from rfl, q2, md_letP, show nI w + (1 : Int32) = nI (w + 1) from nI_1 w]
theorem q_ls_tail (ht : t < 4) (hr8 : r ≤ 8) (hm : m_rows t = nI r) (hC : cellRel t r cells six m_cell) (kF : (Nat → Int32) → (Nat → Int32) → Option ((Nat → Int32) × (Nat → Int32))) {ce : Nat → Int32} (hd : ∀ c, c < 3 * r → cv cells c = 0 → ce c = 0) : ∀ (m w g : Nat) (o su : Nat → Int32), m + w = 3609 → m < g → overRel o → suR r cells ce su → ∃ o' su', overRel o' ∧ suR r cells ce su' ∧ mlX7_laySure_23 (nI t) m_rows m_cell kF g (nI w) o su = kF o' su' := by
  intro m
  induction m with
  | zero =>
    intro w g o su hmw hg ho hS
    obtain ⟨g, rfl⟩ : ∃ z, g = z + 1 := ⟨g - 1, by omega⟩
    refine ⟨o, su, ho, hS, ?_⟩
    rw [mlX7_laySure_23, if_pos (show (3609 : Int32) ≤ nI w from (nI_leI (a := 3609) (by decide) (by omega)).mpr (by omega))]
  | succ m ih =>
    intro w g o su hmw hg ho hS
    obtain ⟨g, rfl⟩ : ∃ z, g = z + 1 := ⟨g - 1, by omega⟩
    by_cases hag : agW cells r w
    · obtain ⟨o1, su1, q1, q2, q3, -⟩ := q_ls_one ht hr8 hm hC kF (by omega) hag g ho su
      rw [q2]
      exact ih (w + 1) g o1 su1 (by omega) (by omega) q1 (su_dead hr8 (by omega) hag hS hd q3)
    · obtain ⟨o1, q1, q2⟩ := q_ls_skip ht hr8 hm hC kF su 1 w g o (by omega) (fun x x1 x2 => by rw [show x = w by omega]; exact hag) ho
      rw [q2]
      exact ih (w + 1) g o1 su (by omega) (by omega) q1 hS
theorem ka_step (rw_ a b c : Int32) (kE : Int32 → (Nat → Int32) → Option (Int32 × (Nat → Int32))) (n : Nat) (x1 x2 : Int32) (ce : Nat → Int32) : mlX0_keepAgreed_4 rw_ a b c kE (n + 1) x1 x2 ce = (if rw_ * (3 : Int32) ≤ x2 then kE x1 ce else if (24 : Int32) ≤ x2 then kE x1 ce else if x2 < 0 ∨ 24 ≤ x2.toNatClampNeg then none else if ce x2.toNatClampNeg = 0 then mlX0_keepAgreed_4 rw_ a b c kE n x1 (x2 + 1) ce else Option.bind (mX0_sixtyHere a b c (x2 / (3 : Int32)) (x2 - x2 / (3 : Int32) * (3 : Int32))) (fun u7 => if ce x2.toNatClampNeg = u7 then mlX0_keepAgreed_4 rw_ a b c kE n (x1 + 1) (x2 + 1) ce else mlX0_keepAgreed_4 rw_ a b c kE n x1 (x2 + 1) (upd ce x2.toNatClampNeg 0))) := by
  rw [mlX0_keepAgreed_4]
  simp only [md_jnP, md_letP]
  by_cases h : x2 < 0 ∨ 24 ≤ x2.toNatClampNeg
  · simp only [if_pos h]
  · simp only [if_neg h]
theorem q_ka_loop (hr8 : r ≤ 8) {w : Nat} (hw : w < 3609) (hf : fit r w) (ce0 : Nat → Int32) (kE : Int32 → (Nat → Int32) → Option (Int32 × (Nat → Int32))) : ∀ (d i f : Nat) (ce : Nat → Int32), i + d = 3 * r → d < f → (∀ c, c < i → ce c = if ce0 c = nI (sT w c) then ce0 c else 0) → (∀ c, i ≤ c → ce c = ce0 c) → ∃ ce', mlX0_keepAgreed_4 (nI r) (nI (kO w)) (nI (nO w)) (nI (fO w)) kE f (nI (kc_ ce i)) (nI i) ce = kE (nI (kc_ ce' (3 * r))) ce' ∧ (∀ c, c < 3 * r → ce' c = if ce0 c = nI (sT w c) then ce0 c else 0) ∧ ∀ c, 3 * r ≤ c → ce' c = ce0 c := by
  intro d
  induction d with
  | zero =>
    intro i f ce hi hfu h1 h2
    obtain ⟨f, rfl⟩ : ∃ z, f = z + 1 := ⟨f - 1, by omega⟩
    obtain rfl : i = 3 * r := by omega
    refine ⟨ce, ?_, h1, h2⟩
    rw [ka_step, show nI r * (3 : Int32) = nI (r * 3) from pk_mul r 3, if_pos ((nI_leI (by omega) (by omega)).mpr (by omega))]
  | succ d ih =>
    intro i f ce hi hfu h1 h2
    obtain ⟨f, rfl⟩ : ∃ z, f = z + 1 := ⟨f - 1, by omega⟩
    have hT := sT_rng hw hf (c := i) (by omega)
    have he := h2 i (Nat.le_refl _)
    have n0 : ¬ nI (sT w i) = 0 := nI_ne0 (by omega) (by omega)
    rw [ka_step, show nI r * (3 : Int32) = nI (r * 3) from pk_mul r 3, if_neg (show ¬ nI (r * 3) ≤ nI i from fun q => by have := (nI_leI (by omega) (by omega)).mp q; omega), if_neg (show ¬ (24 : Int32) ≤ nI i from fun q => by have := (nI_leI (a := 24) (by decide) (by omega)).mp q; omega), if_neg (nI_in (N := 24) (by omega) (by decide)), nI_clamp (by omega), q_shW hr8 hw hf (by omega), Option.bind_some, show nI i + (1 : Int32) = nI (i + 1) from nI_1 i]
    by_cases q0 : ce i = 0
    · rw [if_pos q0]
      have hk : kc_ ce i = kc_ ce (i + 1) := by rw [kc_, if_pos q0, Nat.add_zero]
      rw [hk]
      refine ih (i + 1) f ce (by omega) (by omega) (fun c hc => ?_) (fun c hc => h2 c (by omega))
      by_cases e : c = i
      · subst e
        rw [q0, ← he, q0, if_neg (fun q => n0 q.symm)]
      · exact h1 c (by omega)
    · rw [if_neg q0]
      by_cases q1 : ce i = nI (sT w i)
      · rw [if_pos q1, show nI (kc_ ce i) + (1 : Int32) = nI (kc_ ce i + 1) from nI_1 _]
        have hk : kc_ ce i + 1 = kc_ ce (i + 1) := by rw [kc_, if_neg q0]
        rw [hk]
        refine ih (i + 1) f ce (by omega) (by omega) (fun c hc => ?_) (fun c hc => h2 c (by omega))
        by_cases e : c = i
        · subst e
          rw [if_pos (by rw [← he]; exact q1), he]
        · exact h1 c (by omega)
      · rw [if_neg q1]
        have hk : kc_ ce i = kc_ (upd ce i 0) (i + 1) := by
          rw [kc_, if_pos pk_us, Nat.add_zero]
          exact kc_congr i (fun c hc => (pk_un (by omega)).symm)
        rw [hk]
        refine ih (i + 1) f (upd ce i 0) (by omega) (by omega) (fun c hc => ?_) (fun c hc => ?_)
        · by_cases e : c = i
          · subst e
            rw [pk_us, if_neg (by rw [← he]; exact q1)]
          · rw [pk_un e]; exact h1 c (by omega)
        · rw [pk_un (by omega)]; exact h2 c (by omega)
theorem q_ka (hr8 : r ≤ 8) {w : Nat} (hw : w < 3609) (hf : fit r w) (ce : Nat → Int32) (k : Nat) (hk : k ≤ 24) : ∃ ce', mX0_keepAgreed ce (nI k) (nI r) (nI (kO w)) (nI (nO w)) (nI (fO w)) = some (if kc_ ce' (3 * r) ≤ k then 0 else 1, ce') ∧ (∀ c, c < 3 * r → ce' c = if ce c = nI (sT w c) then ce c else 0) ∧ ∀ c, 3 * r ≤ c → ce' c = ce c := by
  obtain ⟨ce', a, b, c⟩ := q_ka_loop hr8 hw hf ce (fun (y1_67 : Int32) (s_certain_67 : Nat → Int32) => (if y1_67 ≤ nI k then (some ((0 : Int32), s_certain_67)) else (some ((1 : Int32), s_certain_67)))) (3 * r) 0 kN ce (by omega) (by have : kN = 5000 := rfl; omega) (fun c hc => absurd hc (by omega)) (fun _ _ => rfl)
  refine ⟨ce', ?_, b, c⟩
  have hle := kc_le ce' (3 * r)
  have a' : mX0_keepAgreed ce (nI k) (nI r) (nI (kO w)) (nI (nO w)) (nI (fO w)) = _ := a
  rw [a']
  by_cases q : kc_ ce' (3 * r) ≤ k
  · rw [if_pos q, if_pos ((nI_leI (by omega) (by omega)).mpr q)]
  · rw [if_neg q, if_neg (fun z => q ((nI_leI (by omega) (by omega)).mp z))]
theorem q_tA_loop (hr8 : r ≤ 8) {w : Nat} (hw : w < 3609) (hf : fit r w) (kE : (Nat → Int32) → Option (Nat → Int32)) : ∀ (d i f : Nat) (ce : Nat → Int32), i + d = 3 * r → d < f → (∀ c, c < i → ce c = nI (sT w c)) → ∃ ce', mlX0_takeAll_2 (nI r) (nI (kO w)) (nI (nO w)) (nI (fO w)) kE f (nI i) ce = kE ce' ∧ (∀ c, c < 3 * r → ce' c = nI (sT w c)) ∧ ∀ c, 3 * r ≤ c → ce' c = ce c := by
  intro d
  induction d with
  | zero =>
    intro i f ce hi hfu h1
    obtain ⟨f, rfl⟩ : ∃ z, f = z + 1 := ⟨f - 1, by omega⟩
    obtain rfl : i = 3 * r := by omega
    refine ⟨ce, ?_, h1, fun _ _ => rfl⟩
    rw [mlX0_takeAll_2, show nI r * (3 : Int32) = nI (r * 3) from pk_mul r 3, if_pos ((nI_leI (by omega) (by omega)).mpr (by omega))]
  | succ d ih =>
    intro i f ce hi hfu h1
    obtain ⟨f, rfl⟩ : ∃ z, f = z + 1 := ⟨f - 1, by omega⟩
    rw [mlX0_takeAll_2, show nI r * (3 : Int32) = nI (r * 3) from pk_mul r 3, if_neg (show ¬ nI (r * 3) ≤ nI i from fun q => by have := (nI_leI (by omega) (by omega)).mp q; omega), if_neg (show ¬ (24 : Int32) ≤ nI i from fun q => by have := (nI_leI (a := 24) (by decide) (by omega)).mp q; omega), q_shW hr8 hw hf (by omega), Option.bind_some, if_neg (nI_in (N := 24) (by omega) (by decide)), md_letP, md_letP, nI_clamp (by omega), show nI i + (1 : Int32) = nI (i + 1) from nI_1 i]
    obtain ⟨ce', a, b, c⟩ := ih (i + 1) f (upd ce i (nI (sT w i))) (by omega) (by omega) (fun c hc => by
      by_cases e : c = i
      · subst e; exact pk_us
      · rw [pk_un e]; exact h1 c (by omega))
    exact ⟨ce', a, b, fun c' hc' => (c c' hc').trans (pk_un (by omega))⟩
theorem gs_step (hr hc hs : Nat → Int32) (k r_ : Int32) (kE : (Nat → Int32) → Int32 → Int32 → Int32 → Option ((Nat → Int32) × (Nat → Int32) × (Nat → Int32) × (Nat → Int32) × Int32 × Int32 × Int32 × Int32 × Int32)) (n : Nat) (x2 x3 : Int32) (ce : Nat → Int32) (a b c : Int32) : mlX0_gatherSure_41 hr hc hs k r_ kE (n + 1) x2 x3 ce a b c = (if (4000 : Int32) ≤ x3 then kE ce a b c else if x2 = 0 then kE ce a b c else Option.bind (mX0_nextReading hr hc hs k r_ a b c) (fun u8 => if u8.1 = 0 then mlX0_gatherSure_41 hr hc hs k r_ kE n 0 (x3 + 1) ce u8.2.1 u8.2.2.1 u8.2.2.2 else Option.bind (mX0_keepAgreed ce k r_ u8.2.1 u8.2.2.1 u8.2.2.2) (fun u11 => if u11.1 = 0 then mlX0_gatherSure_41 hr hc hs k r_ kE n 0 (x3 + 1) u11.2 u8.2.1 u8.2.2.1 u8.2.2.2 else mlX0_gatherSure_41 hr hc hs k r_ kE n 1 (x3 + 1) u11.2 u8.2.1 u8.2.2.1 u8.2.2.2))) := by
  rw [mlX0_gatherSure_41]
  simp only [md_jnP, md_letP]
theorem gs_end (hr hc hs : Nat → Int32) (k r_ : Int32) (kE : (Nat → Int32) → Int32 → Int32 → Int32 → Option ((Nat → Int32) × (Nat → Int32) × (Nat → Int32) × (Nat → Int32) × Int32 × Int32 × Int32 × Int32 × Int32)) {f : Nat} (hf : 0 < f) (x3 : Int32) (ce : Nat → Int32) (a b c : Int32) : mlX0_gatherSure_41 hr hc hs k r_ kE f 0 x3 ce a b c = kE ce a b c := by
  obtain ⟨f, rfl⟩ : ∃ z, f = z + 1 := ⟨f - 1, by omega⟩
  rw [gs_step]
  by_cases q : (4000 : Int32) ≤ x3
  · rw [if_pos q]
  · rw [if_neg q, if_pos rfl]
theorem q_gs_loop (ht : t < 4) (hr1 : 1 ≤ r) (hr8 : r ≤ 8) (hm : m_rows t = nI r) (hC : cellRel t r cells six m_cell) (hH : heldRel cells hr hc hs k (3 * r)) (kE : (Nat → Int32) → Int32 → Int32 → Int32 → Option ((Nat → Int32) × (Nat → Int32) × (Nat → Int32) × (Nat → Int32) × Int32 × Int32 × Int32 × Int32 × Int32)) (kF : (Nat → Int32) → (Nat → Int32) → Option ((Nat → Int32) × (Nat → Int32))) : ∀ (m w i f g : Nat) (kd n fs : Int32) (ce o su : Nat → Int32), m + w = 3609 → i + m < 3999 → m + 1 < f → m < g → overRel o → suR r cells ce su → stS r w kd n fs → ∃ ce' a b c o' su', mlX0_gatherSure_41 hr hc hs (nI k) (nI r) kE f 1 (nI i) ce kd n fs = kE ce' a b c ∧ mlX7_laySure_23 (nI t) m_rows m_cell kF g (nI w) o su = kF o' su' ∧ overRel o' ∧ suR r cells ce' su' := by
  intro m
  induction m using Nat.strongRecOn with
  | _ m ih =>
    intro w i f g kd n fs ce o su hmw hi hf hg ho hS hst
    obtain ⟨f, rfl⟩ : ∃ z, f = z + 1 := ⟨f - 1, by omega⟩
    have hk24 : k ≤ 24 := by
      have := nz_le cells (3 * r)
      have := hH.1
      omega
    rw [gs_step, if_neg (show ¬ (4000 : Int32) ≤ nI i from fun z => by have := (nI_leI (a := 4000) (by decide) (by omega)).mp z; omega), if_neg h10]
    rcases q_nr hr1 hr8 hC hH (by omega) hst with ⟨w1, g1, g2, g3, g4, g5, g6⟩ | ⟨g1, a, b, c, g2⟩
    · obtain ⟨g', hg'⟩ : ∃ z, g = (z + 1) + (w1 - w) := ⟨g - (w1 - w) - 1, by omega⟩
      obtain ⟨o1, p1, p2⟩ := q_ls_skip ht hr8 hm hC kF su (w1 - w) w (g' + 1) o (by omega) (fun x q1 q2 => g4 x q1 (by omega)) ho
      rw [show w + (w1 - w) = w1 by omega] at p2
      obtain ⟨o2, su2, q1, q2, q3, -⟩ := q_ls_one ht hr8 hm hC kF g2 g3 g' p1 su
      obtain ⟨ce', k1, k2, -⟩ := q_ka hr8 g2 g3.1 ce k hk24
      have hS' := su_next hr8 g2 g3 hS k2 q3
      rw [hg', p2, q2, g5, Option.bind_some, if_neg h10, k1, Option.bind_some]
      by_cases hkk : kc_ ce' (3 * r) ≤ k
      · rw [if_pos hkk, if_pos (show (0 : Int32) = 0 from rfl), gs_end _ _ _ _ _ _ (by omega)]
        have hdead := (kc_nz (cells := cells) (ce := ce') (3 * r) (fun c hc hn => by
          rcases hS' c hc with ⟨v, v1, v2, v3, -, -⟩ | ⟨v1, -, -⟩
          · rw [v3]; exact nI_ne0 (by omega) (by omega)
          · exact absurd v1 hn)).2 (by rw [← hH.1]; exact hkk)
        obtain ⟨o3, su3, z1, z2, z3⟩ := q_ls_tail ht hr8 hm hC kF hdead (3609 - (w1 + 1)) (w1 + 1) g' o2 su2 (by omega) (by omega) q1 hS'
        exact ⟨ce', _, _, _, o3, su3, rfl, z3, z1, z2⟩
      · rw [if_neg hkk, if_neg h10, show nI i + (1 : Int32) = nI (i + 1) from nI_1 i]
        exact ih (3609 - (w1 + 1)) (by omega) (w1 + 1) (i + 1) f g' _ _ _ ce' o2 su2 (by omega) (by omega) (by omega) (by omega) q1 hS' g6
    · obtain ⟨g', hg'⟩ : ∃ z, g = (z + 1) + (3609 - w) := ⟨g - (3609 - w) - 1, by omega⟩
      obtain ⟨o1, p1, p2⟩ := q_ls_skip ht hr8 hm hC kF su (3609 - w) w (g' + 1) o (by omega) (fun x q1 q2 => g1 x q1 (by omega)) ho
      rw [show w + (3609 - w) = 3609 by omega] at p2
      rw [hg', p2, mlX7_laySure_23, if_pos (show (3609 : Int32) ≤ nI 3609 from by decide), g2, Option.bind_some, if_pos (show (0 : Int32) = 0 from rfl), gs_end _ _ _ _ _ _ (by omega)]
      exact ⟨ce, _, _, _, o1, su, rfl, rfl, p1, hS⟩
theorem q_c0_loop (kE : (Nat → Int32) → Option ((Nat → Int32) × (Nat → Int32) × (Nat → Int32) × (Nat → Int32) × Int32 × Int32 × Int32 × Int32 × Int32)) : ∀ (d i f : Nat) (a : Nat → Int32), i + d = 24 → d < f → (∀ c, c < i → a c = 0) → ∃ a', mlX0_gatherSure_2 kE f (nI i) a = kE a' ∧ ∀ c, c < 24 → a' c = 0 := by
  intro d
  induction d with
  | zero =>
    intro i f a hi hf h
    obtain ⟨f, rfl⟩ : ∃ z, f = z + 1 := ⟨f - 1, by omega⟩
    rw [mlX0_gatherSure_2, if_pos (show (24 : Int32) ≤ nI i from (nI_leI (a := 24) (by decide) (by omega)).mpr (by omega))]
    exact ⟨a, rfl, fun c hc => h c (by omega)⟩
  | succ d ih =>
    intro i f a hi hf h
    obtain ⟨f, rfl⟩ : ∃ z, f = z + 1 := ⟨f - 1, by omega⟩
    rw [mlX0_gatherSure_2, if_neg (show ¬ (24 : Int32) ≤ nI i from fun q => by have := (nI_leI (a := 24) (by decide) (by omega)).mp q; omega), if_neg (nI_in (N := 24) (by omega) (by decide)), md_letP, md_letP, nI_clamp (by omega), show nI i + (1 : Int32) = nI (i + 1) from nI_1 i]
    refine ih (i + 1) f _ (by omega) (by omega) (fun c hc => ?_)
    by_cases e : c = i
    · subst e; exact pk_us
    · rw [pk_un e]; exact h c (by omega)
theorem q_c1_loop (kE : (Nat → Int32) → Option ((Nat → Int32) × (Nat → Int32))) : ∀ (d i f : Nat) (a : Nat → Int32), i + d = 24 → d < f → (∀ c, c < i → a c = 0) → ∃ a', mlX7_laySure_2 kE f (nI i) a = kE a' ∧ ∀ c, c < 24 → a' c = 0 := by
  intro d
  induction d with
  | zero =>
    intro i f a hi hf h
    obtain ⟨f, rfl⟩ : ∃ z, f = z + 1 := ⟨f - 1, by omega⟩
    rw [mlX7_laySure_2, if_pos (show (24 : Int32) ≤ nI i from (nI_leI (a := 24) (by decide) (by omega)).mpr (by omega))]
    exact ⟨a, rfl, fun c hc => h c (by omega)⟩
  | succ d ih =>
    intro i f a hi hf h
    obtain ⟨f, rfl⟩ : ∃ z, f = z + 1 := ⟨f - 1, by omega⟩
    rw [mlX7_laySure_2, if_neg (show ¬ (24 : Int32) ≤ nI i from fun q => by have := (nI_leI (a := 24) (by decide) (by omega)).mp q; omega), if_neg (nI_in (N := 24) (by omega) (by decide)), md_letP, md_letP, nI_clamp (by omega), show nI i + (1 : Int32) = nI (i + 1) from nI_1 i]
    refine ih (i + 1) f _ (by omega) (by omega) (fun c hc => ?_)
    by_cases e : c = i
    · subst e; exact pk_us
    · rw [pk_un e]; exact h c (by omega)
/-- what sure and fill need -/
def suF (r : Nat) (ce su : Nat → Int32) : Prop := ∀ c, c < 3 * r → (∃ v, 1 ≤ v ∧ v ≤ 12959999 ∧ ce c = nI v ∧ su c = nI v) ∨ (ce c = 0 ∧ (su c = -1 ∨ su c = 0))
theorem q_gather (ht : t < 4) (hr1 : 1 ≤ r) (hr8 : r ≤ 8) (hm : m_rows t = nI r) (hC : cellRel t r cells six m_cell) (hr hc hs ce : Nat → Int32) {o : Nat → Int32} (ho : overRel o) (su : Nat → Int32) : ∃ hr' hc' hs' ce' k' a b c o' su', mX0_gatherSure hr hc hs ce cells six (nI r) = some (hr', hc', hs', ce', k', nI r, a, b, c) ∧ mX7_laySure m_rows m_cell o su (nI t) = some (o', su') ∧ overRel o' ∧ suF r ce' su' := by
  obtain ⟨hr', hc', hs', k, e1, e2⟩ := q_begin hr8 hC hr hc hs
  obtain ⟨su1, f1, f2⟩ := q_c1_loop (fun (m_sure_21 : Nat → Int32) => (mlX7_laySure_23 (nI t) m_rows m_cell (fun (m_overs_127 : Nat → Int32) (m_sure_127 : Nat → Int32) => (some (m_overs_127, m_sure_127))) kN (0 : Int32) o m_sure_21)) 24 0 kN su rfl (by decide) (fun c hc => absurd hc (by omega))
  have f1' : mX7_laySure m_rows m_cell o su (nI t) = _ := f1
  rw [f1', mX0_gatherSure]
  simp only [md_jnP]
  rw [e1]
  simp only [Option.bind_some]
  rcases q_nr hr1 hr8 hC e2 (Nat.zero_le _) (st_begin hr8) with ⟨w1, g1, g2, g3, g4, g5, g6⟩ | ⟨g1, a, b, c, g2⟩
  · rw [g5]
    simp only [Option.bind_some, w10, if_false]
    obtain ⟨ce1, d1, d2⟩ := q_c0_loop (fun (s_certain_21 : Nat → Int32) => Option.bind (mX0_takeAll s_certain_21 (nI r) (nI (kO w1)) (nI (nO w1)) (nI (fO w1))) (fun u14 => mlX0_gatherSure_41 hr' hc' hs' (nI k) (nI r) (fun (s_certain_78 : Nat → Int32) (s_kind_78 : Int32) (s_n_78 : Int32) (s_first_78 : Int32) => (some (hr', hc', hs', s_certain_78, nI k, nI r, s_kind_78, s_n_78, s_first_78))) kN (1 : Int32) (0 : Int32) u14 (nI (kO w1)) (nI (nO w1)) (nI (fO w1)))) 24 0 kN ce rfl (by decide) (fun c hc => absurd hc (by omega))
    obtain ⟨ce2, t1, t2, -⟩ := q_tA_loop hr8 g2 g3.1 (fun (s_certain_40 : Nat → Int32) => (some s_certain_40)) (3 * r) 0 kN ce1 (by omega) (by have : kN = 5000 := rfl; omega) (fun c hc => absurd hc (by omega))
    have t1' : mX0_takeAll ce1 (nI r) (nI (kO w1)) (nI (nO w1)) (nI (fO w1)) = some ce2 := t1
    rw [show nI 0 = (0 : Int32) from nI_0] at d1
    rw [d1, t1', Option.bind_some]
    obtain ⟨o1, p1, p2⟩ := q_ls_skip ht hr8 hm hC (fun (m_overs_127 : Nat → Int32) (m_sure_127 : Nat → Int32) => (some (m_overs_127, m_sure_127))) su1 w1 0 (kN - w1) o (by omega) (fun x q1 q2 => g4 x q1 (by omega)) ho
    obtain ⟨o2, su2, q1, q2, q3, -⟩ := q_ls_one ht hr8 hm hC (fun (m_overs_127 : Nat → Int32) (m_sure_127 : Nat → Int32) => (some (m_overs_127, m_sure_127))) g2 g3 (kN - w1 - 1) p1 su1
    have hS : suR r cells ce2 su2 := by
      intro c hc
      left
      have hT := sT_rng g2 g3.1 hc
      refine ⟨sT w1 c, hT.1, hT.2, t2 c hc, ?_, fun hn => (ag_eq g3 hc hn).symm⟩
      rw [q3 c hc, if_pos (.inl (f2 c (by omega)))]
    have hkN : kN = 5000 := rfl
    obtain ⟨ce', a, b, c, o', su', z1, z2, z3, z4⟩ := q_gs_loop ht hr1 hr8 hm hC e2 (fun (s_certain_78 : Nat → Int32) (s_kind_78 : Int32) (s_n_78 : Int32) (s_first_78 : Int32) => (some (hr', hc', hs', s_certain_78, nI k, nI r, s_kind_78, s_n_78, s_first_78))) (fun (m_overs_127 : Nat → Int32) (m_sure_127 : Nat → Int32) => (some (m_overs_127, m_sure_127))) (3609 - (w1 + 1)) (w1 + 1) 0 kN (kN - w1 - 1) _ _ _ ce2 o2 su2 (by omega) (by omega) (by omega) (by omega) q1 hS g6
    refine ⟨hr', hc', hs', ce', nI k, a, b, c, o', su', z1, ?_, z3, fun c hc => ?_⟩
    · rw [show kN - w1 + w1 = kN by omega, Nat.zero_add, show nI 0 = (0 : Int32) from nI_0] at p2
      rw [show kN - w1 - 1 + 1 = kN - w1 by omega] at q2
      rw [p2, q2]
      exact z2
    · rcases z4 c hc with ⟨v, v1, v2, v3, v4, -⟩ | ⟨-, v2, v3⟩
      · exact .inl ⟨v, v1, v2, v3, v4⟩
      · exact .inr ⟨v2, .inl v3⟩
  · rw [g2]
    simp only [Option.bind_some, w00, if_true]
    obtain ⟨ce1, d1, d2⟩ := q_c0_loop (fun (s_certain_21 : Nat → Int32) => mlX0_gatherSure_41 hr' hc' hs' (nI k) (nI r) (fun (s_certain_78 : Nat → Int32) (s_kind_78 : Int32) (s_n_78 : Int32) (s_first_78 : Int32) => (some (hr', hc', hs', s_certain_78, nI k, nI r, s_kind_78, s_n_78, s_first_78))) kN (0 : Int32) (0 : Int32) s_certain_21 a b c) 24 0 kN ce rfl (by decide) (fun c hc => absurd hc (by omega))
    rw [show nI 0 = (0 : Int32) from nI_0] at d1
    rw [d1, gs_end _ _ _ _ _ _ (by decide)]
    obtain ⟨o1, p1, p2⟩ := q_ls_skip ht hr8 hm hC (fun (m_overs_127 : Nat → Int32) (m_sure_127 : Nat → Int32) => (some (m_overs_127, m_sure_127))) su1 3609 0 1391 o (by omega) (fun x q1 q2 => g1 x q1 (by omega)) ho
    have p3 : mlX7_laySure_23 (nI t) m_rows m_cell (fun (m_overs_127 : Nat → Int32) (m_sure_127 : Nat → Int32) => (some (m_overs_127, m_sure_127))) kN (0 : Int32) o su1 = mlX7_laySure_23 (nI t) m_rows m_cell (fun (m_overs_127 : Nat → Int32) (m_sure_127 : Nat → Int32) => (some (m_overs_127, m_sure_127))) (1390 + 1) (nI 3609) o1 su1 := p2
    refine ⟨hr', hc', hs', ce1, nI k, a, b, c, o1, su1, rfl, ?_, p1, fun c hc => .inr ⟨d2 c (by omega), .inr (f2 c (by omega))⟩⟩
    rw [p3, mlX7_laySure_23, if_pos (show (3609 : Int32) ≤ nI 3609 from by decide)]
end SURE
theorem q_sureIn {ce : Nat → Int32} {i j : Nat} (hi : i < 8) (hj : j < 3) : mX0_sureIn ce (nI i) (nI j) = some (ce (3 * i + j)) := by
  rw [mX0_sureIn, md_letP, ix3, if_neg (nI_pos (by omega)), if_neg (show ¬ (24 : Int32) ≤ nI (3 * i + j) from fun q => by have := (nI_leI (a := 24) (by decide) (by omega)).mp q; omega), if_neg (nI_in (N := 24) (by omega) (by decide)), nI_clamp (by omega)]
/-- sure -/
theorem op_sure {t : Nat} (ht : t < 4) {cells six m_rows m_cell : Nat → Int32} {rows : Int32} (h : tabRel t cells six rows m_rows m_cell) {o : Nat → Int32} (ho : overRel o) (hr hc hs ce : Nat → Int32) (x1 x2 x3 x4 x5 : Int32) (su : Nat → Int32) (row col : Int32) : ∃ q hr' hc' hs' ce' y1 y2 y3 y4 y5 o' su', mX6_sure_i hr hc hs ce x1 x2 x3 x4 x5 cells six rows (nI t) row col = some (q, hr', hc', hs', ce', y1, y2, y3, y4, y5) ∧ mX7_sure m_rows m_cell o su (nI t) row col = some (q, o', su') ∧ overRel o' := by
  obtain ⟨r, h1, h2, rfl, h4, h5⟩ := h
  rw [mX6_sure_i, mX7_sure]
  rcases q_cell h1 h2 ht h4 row col with ⟨a, b⟩ | ⟨i, j, hi, hj, rfl, rfl, a, b⟩
  · rw [a, b]; exact ⟨_, _, _, _, _, _, _, _, _, _, _, _, rfl, rfl, ho⟩
  · obtain ⟨hr', hc', hs', ce', k', a', b', c', o', su', g1, g2, g3, g4⟩ := q_gather ht h1 h2 h4 h5 hr hc hs ce ho su
    have e3 : (3 : Int32) * nI i + nI j = nI (3 * i + j) := by rw [show (3 : Int32) * nI i = nI (3 * i) from pk_mul 3 i, nI_add]
    rw [a, b, Option.bind_some, Option.bind_some, if_neg h10, if_neg h10, g1, g2, Option.bind_some, Option.bind_some, q_sureIn (by omega) hj, Option.bind_some, e3, if_neg (nI_in (N := 24) (by omega) (by decide)), md_letP, nI_clamp (by omega)]
    dsimp only
    rcases g4 (3 * i + j) (by omega) with ⟨v, v1, v2, v3, v4⟩ | ⟨v1, v2 | v2⟩
    · rw [if_pos (show 0 ≤ su' (3 * i + j) from by rw [v4]; exact nI_pos' (by omega)), v3, v4]
      exact ⟨_, _, _, _, _, _, _, _, _, _, _, _, rfl, rfl, g3⟩
    · rw [if_neg (show ¬ 0 ≤ su' (3 * i + j) from by rw [v2]; decide), v1]
      exact ⟨_, _, _, _, _, _, _, _, _, _, _, _, rfl, rfl, g3⟩
    · rw [if_pos (show 0 ≤ su' (3 * i + j) from by rw [v2]; decide), v1, v2]
      exact ⟨_, _, _, _, _, _, _, _, _, _, _, _, rfl, rfl, g3⟩
theorem op_sure_o {x : Int32} (hx : x < 0 ∨ nI 4 ≤ x) (m_rows m_cell o su : Nat → Int32) (row col : Int32) : mX7_sure m_rows m_cell o su x row col = some (-1, o, su) := by
  rw [mX7_sure, mX7_isCell, mX7_isRow, q_isTo hx]; rfl
section FILL
variable {t r : Nat} {cells six m_rows m_cell ce su : Nat → Int32}
def flV (cells ce : Nat → Int32) (n c : Nat) : Nat := if c < n ∧ cv cells c = 0 then cv ce c else cv cells c
def flC (cells ce : Nat → Int32) : Nat → Nat
  | 0 => 0
  | n + 1 => flC cells ce n + (if cv cells n = 0 ∧ cv ce n ≠ 0 then 1 else 0)
theorem flC_le (cells ce : Nat → Int32) : ∀ n, flC cells ce n ≤ n := by
  intro n
  induction n with
  | zero => exact Nat.le_refl _
  | succ n ih => rw [flC]; split <;> omega
theorem fl_at (cells ce : Nat → Int32) (n : Nat) : flV cells ce n n = cv cells n := by rw [flV, if_neg (by omega)]
theorem fl_new (cells ce : Nat → Int32) (n : Nat) : flV cells ce (n + 1) n = if cv cells n = 0 then cv ce n else cv cells n := by
  rw [flV]
  by_cases h : cv cells n = 0
  · rw [if_pos ⟨by omega, h⟩, if_pos h]
  · rw [if_neg (fun q => h q.2), if_neg h]
theorem fl_old (cells ce : Nat → Int32) {n c : Nat} (h : c ≠ n) : flV cells ce (n + 1) c = flV cells ce n c := by
  rw [flV, flV]
  by_cases q : c < n ∧ cv cells c = 0
  · rw [if_pos q, if_pos ⟨by omega, q.2⟩]
  · rw [if_neg q, if_neg (fun p => q ⟨by omega, p.2⟩)]
theorem suF_v (hS : suF r ce su) (hr8 : r ≤ 8) {c : Nat} (hc : c < 3 * r) : cv ce c ≤ 12959999 ∧ ce c = nI (cv ce c) ∧ ((cv ce c ≠ 0 ∧ su c = nI (cv ce c)) ∨ (cv ce c = 0 ∧ su c ≤ 0)) := by
  rcases hS c hc with ⟨v, v1, v2, v3, v4⟩ | ⟨v1, v2⟩
  · have e : cv ce c = v := by rw [cv, v3, nI_clamp (by omega)]
    rw [e]
    exact ⟨v2, v3, .inl ⟨by omega, v4⟩⟩
  · have e : cv ce c = 0 := by rw [cv, v1]; rfl
    rw [e]
    refine ⟨by omega, v1, .inr ⟨rfl, ?_⟩⟩
    rcases v2 with v2 | v2
    · rw [v2]; decide
    · rw [v2]; decide
abbrev flK := Int32 → (Nat → Int32) → (Nat → Int32) → Option (Int32 × (Nat → Int32) × (Nat → Int32) × (Nat → Int32) × (Nat → Int32) × Int32 × Int32 × Int32 × Int32 × Int32 × (Nat → Int32) × (Nat → Int32))
theorem fx2_step (x4 : Int32) (ce : Nat → Int32) (kE : flK) (n : Nat) (x3 x5 : Int32) (a b : Nat → Int32) : mlX6_fill_i_37 x4 ce kE (n + 1) x3 x5 a b = (if (3 : Int32) ≤ x5 then kE x3 a b else Option.bind (mX0_sureIn ce x4 x5) (fun u5 => if u5 = 0 then mlX6_fill_i_37 x4 ce kE n x3 (x5 + 1) a b else Option.bind (mX3_held a x4 x5) (fun u8 => if u8 = 0 then Option.bind (mX3_hold a b x4 x5 u5) (fun u10 => mlX6_fill_i_37 x4 ce kE n (x3 + 1) (x5 + 1) u10.1 u10.2) else mlX6_fill_i_37 x4 ce kE n x3 (x5 + 1) a b))) := by
  rw [mlX6_fill_i_37]
  simp only [md_jnP, md_letP]
theorem q_flx_in (hr8 : r ≤ 8) (hC : cellRel t r cells six m_cell) (hS : suF r ce su) {i : Nat} (hi : i < r) (kE : flK) : ∀ (d j f : Nat) (a b : Nat → Int32), j + d = 3 → d < f → (∀ c, c < 24 → a c = nI (flV cells ce (3 * i + j) c) ∧ b c = nI (sx (flV cells ce (3 * i + j) c))) → ∃ a' b', mlX6_fill_i_37 (nI i) ce kE f (nI (flC cells ce (3 * i + j))) (nI j) a b = kE (nI (flC cells ce (3 * (i + 1)))) a' b' ∧ ∀ c, c < 24 → a' c = nI (flV cells ce (3 * (i + 1)) c) ∧ b' c = nI (sx (flV cells ce (3 * (i + 1)) c)) := by
  intro d
  induction d with
  | zero =>
    intro j f a b hj hf hs
    obtain ⟨f, rfl⟩ : ∃ z, f = z + 1 := ⟨f - 1, by omega⟩
    refine ⟨a, b, ?_, ?_⟩
    · rw [fx2_step, if_pos (show (3 : Int32) ≤ nI j from (nI_leI (a := 3) (by decide) (by omega)).mpr (by omega)), show 3 * (i + 1) = 3 * i + j by omega]
    · rw [show 3 * (i + 1) = 3 * i + j by omega]
      exact hs
  | succ d ih =>
    intro j f a b hj hf hs
    obtain ⟨f, rfl⟩ : ∃ z, f = z + 1 := ⟨f - 1, by omega⟩
    obtain ⟨c1, -, -, -, -⟩ := cell_v hC (c := 3 * i + j) (by omega)
    obtain ⟨s1, s2, s3⟩ := suF_v hS hr8 (c := 3 * i + j) (by omega)
    have ea := (hs (3 * i + j) (by omega)).1
    rw [fl_at] at ea
    have keep : (flV cells ce (3 * i + j + 1) (3 * i + j) = cv cells (3 * i + j)) → ∀ c, c < 24 → a c = nI (flV cells ce (3 * i + (j + 1)) c) ∧ b c = nI (sx (flV cells ce (3 * i + (j + 1)) c)) := by
      intro e c hc
      rw [show 3 * i + (j + 1) = 3 * i + j + 1 by omega]
      by_cases ec : c = 3 * i + j
      · subst ec
        rw [e]
        have := hs _ hc
        rw [fl_at] at this
        exact this
      · rw [fl_old _ _ ec]; exact hs c hc
    rw [fx2_step, if_neg (show ¬ (3 : Int32) ≤ nI j from fun q => by have := (nI_leI (a := 3) (by decide) (by omega)).mp q; omega), q_sureIn (by omega) (by omega), Option.bind_some, s2, q_held (by omega) (by omega), Option.bind_some, ea, show nI j + (1 : Int32) = nI (j + 1) from nI_1 j]
    by_cases q0 : cv ce (3 * i + j) = 0
    · rw [if_pos (by rw [q0]; rfl)]
      have hcn : flC cells ce (3 * i + j) = flC cells ce (3 * i + (j + 1)) := by rw [show 3 * i + (j + 1) = 3 * i + j + 1 by omega, flC, if_neg (fun q => q.2 q0), Nat.add_zero]
      rw [hcn]
      refine ih (j + 1) f a b (by omega) (by omega) (keep ?_)
      rw [fl_new]
      by_cases q1 : cv cells (3 * i + j) = 0
      · rw [if_pos q1, q0, q1]
      · rw [if_neg q1]
    · rw [if_neg (nI_ne0 (by omega) (by omega))]
      by_cases q1 : cv cells (3 * i + j) = 0
      · rw [if_pos (by rw [q1]; rfl), q_hold (by omega) (by omega) s1, Option.bind_some, show nI (flC cells ce (3 * i + j)) + (1 : Int32) = nI (flC cells ce (3 * i + j) + 1) from nI_1 _]
        have hcn : flC cells ce (3 * i + j) + 1 = flC cells ce (3 * i + (j + 1)) := by rw [show 3 * i + (j + 1) = 3 * i + j + 1 by omega, flC, if_pos ⟨q1, q0⟩]
        rw [hcn]
        refine ih (j + 1) f _ _ (by omega) (by omega) (fun c hc => ?_)
        rw [show 3 * i + (j + 1) = 3 * i + j + 1 by omega]
        by_cases ec : c = 3 * i + j
        · subst ec
          rw [fl_new, if_pos q1]
          exact ⟨pk_us, pk_us⟩
        · rw [fl_old _ _ ec]
          exact ⟨(pk_un ec).trans (hs c hc).1, (pk_un ec).trans (hs c hc).2⟩
      · rw [if_neg (nI_ne0 (by omega) (by omega))]
        have hcn : flC cells ce (3 * i + j) = flC cells ce (3 * i + (j + 1)) := by rw [show 3 * i + (j + 1) = 3 * i + j + 1 by omega, flC, if_neg (fun q => q1 q.1), Nat.add_zero]
        rw [hcn]
        exact ih (j + 1) f a b (by omega) (by omega) (keep (by rw [fl_new, if_neg q1]))
theorem q_flx (hr8 : r ≤ 8) (hC : cellRel t r cells six m_cell) (hS : suF r ce su) (kE : flK) : ∀ (d i f : Nat) (a b : Nat → Int32), i + d = r → d < f → (∀ c, c < 24 → a c = nI (flV cells ce (3 * i) c) ∧ b c = nI (sx (flV cells ce (3 * i) c))) → ∃ a' b', mlX6_fill_i_25 ce (nI r) kE f (nI (flC cells ce (3 * i))) (nI i) a b = kE (nI (flC cells ce (3 * r))) a' b' ∧ ∀ c, c < 24 → a' c = nI (flV cells ce (3 * r) c) ∧ b' c = nI (sx (flV cells ce (3 * r) c)) := by
  intro d
  induction d with
  | zero =>
    intro i f a b hi hf hs
    obtain ⟨f, rfl⟩ : ∃ z, f = z + 1 := ⟨f - 1, by omega⟩
    obtain rfl : i = r := by omega
    rw [mlX6_fill_i_25, mX3_rowCount, Option.bind_some, if_pos ((nI_leI (by omega) (by omega)).mpr (Nat.le_refl _))]
    exact ⟨a, b, rfl, hs⟩
  | succ d ih =>
    intro i f a b hi hf hs
    obtain ⟨f, rfl⟩ : ∃ z, f = z + 1 := ⟨f - 1, by omega⟩
    rw [mlX6_fill_i_25, mX3_rowCount, Option.bind_some, if_neg (show ¬ nI r ≤ nI i from fun q => by have := (nI_leI (by omega) (by omega)).mp q; omega)]
    obtain ⟨a1, b1, e1, e2⟩ := q_flx_in hr8 hC hS (i := i) (by omega) (fun (y3_91 : Int32) (t_cells_91 : Nat → Int32) (t_sixties_91 : Nat → Int32) => (md_let (nI i + (1 : Int32)) (fun (x4_12 : Int32) => (mlX6_fill_i_25 ce (nI r) kE f y3_91 x4_12 t_cells_91 t_sixties_91)))) 3 0 kN a b rfl (by decide) hs
    obtain ⟨a2, b2, e3, e4⟩ := ih (i + 1) f a1 b1 (by omega) (by omega) e2
    refine ⟨a2, b2, ?_, e4⟩
    rw [show (0 : Int32) = nI 0 from rfl]
    refine e1.trans ?_
    rw [md_letP, show nI i + (1 : Int32) = nI (i + 1) from nI_1 i]
    exact e3
theorem fm_step (x1 : Int32) (mr su : Nat → Int32) (kE : Int32 → (Nat → Int32) → Option (Int32 × (Nat → Int32) × (Nat → Int32) × (Nat → Int32))) (n : Nat) (x2 x3 : Int32) (mc : Nat → Int32) (h3 : ¬ (x3 < 0 ∨ 24 ≤ x3.toNatClampNeg)) (h4 : ¬ (((24 : Int32) * x1 + x3) < 0 ∨ 96 ≤ ((24 : Int32) * x1 + x3).toNatClampNeg)) : mlX7_fill_18 x1 mr su kE (n + 1) x2 x3 mc = (if x1 < 0 ∨ 4 ≤ x1.toNatClampNeg then none else if (3 : Int32) * mr x1.toNatClampNeg ≤ x3 then kE x2 mc else if mc ((24 : Int32) * x1 + x3).toNatClampNeg = 0 then (if su x3.toNatClampNeg ≤ 0 then mlX7_fill_18 x1 mr su kE n x2 (x3 + 1) mc else mlX7_fill_18 x1 mr su kE n (x2 + 1) (x3 + 1) (upd mc ((24 : Int32) * x1 + x3).toNatClampNeg (su x3.toNatClampNeg))) else mlX7_fill_18 x1 mr su kE n x2 (x3 + 1) mc) := by
  rw [mlX7_fill_18]
  simp only [md_jnP, md_letP, if_neg h3, if_neg h4]
theorem q_flm (ht : t < 4) (hr8 : r ≤ 8) (hm : m_rows t = nI r) (hC : cellRel t r cells six m_cell) (hS : suF r ce su) (kE : Int32 → (Nat → Int32) → Option (Int32 × (Nat → Int32) × (Nat → Int32) × (Nat → Int32))) : ∀ (d k f : Nat) (m : Nat → Int32), k + d = 3 * r → d < f → (∀ c, c < 24 → m (24 * t + c) = nI (flV cells ce k c)) → frm t m_cell m → ∃ m', mlX7_fill_18 (nI t) m_rows su kE f (nI (flC cells ce k)) (nI k) m = kE (nI (flC cells ce (3 * r))) m' ∧ (∀ c, c < 24 → m' (24 * t + c) = nI (flV cells ce (3 * r) c)) ∧ frm t m_cell m' := by
  intro d
  induction d with
  | zero =>
    intro k f m hk hf hs hfr
    obtain ⟨f, rfl⟩ : ∃ z, f = z + 1 := ⟨f - 1, by omega⟩
    obtain rfl : k = 3 * r := by omega
    refine ⟨m, ?_, hs, hfr⟩
    rw [mlX7_fill_18, if_neg (nI_in ht (by decide)), nI_clamp (by omega), hm, show (3 : Int32) * nI r = nI (3 * r) from pk_mul 3 r, if_pos ((nI_leI (by omega) (by omega)).mpr (Nat.le_refl _))]
  | succ d ih =>
    intro k f m hk hf hs hfr
    obtain ⟨f, rfl⟩ : ∃ z, f = z + 1 := ⟨f - 1, by omega⟩
    obtain ⟨c1, -, -, -, -⟩ := cell_v hC (c := k) (by omega)
    obtain ⟨s1, s2, s3⟩ := suF_v hS hr8 (c := k) (by omega)
    have et := hs k (by omega)
    rw [fl_at] at et
    have x2 : (24 : Int32) * nI t + nI k = nI (24 * t + k) := by rw [show (24 : Int32) * nI t = nI (24 * t) from pk_mul 24 t, nI_add]
    have keep : (flV cells ce (k + 1) k = cv cells k) → ∀ c, c < 24 → m (24 * t + c) = nI (flV cells ce (k + 1) c) := by
      intro e c hc
      by_cases ec : c = k
      · subst ec; rw [e]; exact et
      · rw [fl_old _ _ ec]; exact hs c hc
    rw [fm_step _ _ _ _ _ _ _ _ (nI_in (N := 24) (by omega) (by decide)) (by rw [x2]; exact nI_in (N := 96) (by omega) (by decide)), if_neg (nI_in ht (by decide)), x2, nI_clamp (n := t) (by omega), nI_clamp (n := k) (by omega), nI_clamp (n := 24 * t + k) (by omega), hm, show (3 : Int32) * nI r = nI (3 * r) from pk_mul 3 r, if_neg (show ¬ nI (3 * r) ≤ nI k from fun q => by have := (nI_leI (by omega) (by omega)).mp q; omega), et, show nI k + (1 : Int32) = nI (k + 1) from nI_1 k]
    by_cases q1 : cv cells k = 0
    · rw [if_pos (by rw [q1]; rfl)]
      rcases s3 with ⟨q0, z⟩ | ⟨q0, z⟩
      · rw [z, if_neg (nI_nle (by omega) (by omega)), show nI (flC cells ce k) + (1 : Int32) = nI (flC cells ce k + 1) from nI_1 _]
        have hcn : flC cells ce k + 1 = flC cells ce (k + 1) := by rw [flC, if_pos ⟨q1, q0⟩]
        rw [hcn]
        refine ih (k + 1) f _ (by omega) (by omega) (fun c hc => ?_) (frm_trans hfr (frm_upd (by omega) _ _))
        by_cases ec : c = k
        · subst ec
          rw [fl_new, if_pos q1]
          exact pk_us
        · rw [fl_old _ _ ec, pk_un (by omega)]
          exact hs c hc
      · rw [if_pos z]
        have hcn : flC cells ce k = flC cells ce (k + 1) := by rw [flC, if_neg (fun q => q.2 q0), Nat.add_zero]
        rw [hcn]
        exact ih (k + 1) f m (by omega) (by omega) (keep (by rw [fl_new, if_pos q1, q0, q1])) hfr
    · rw [if_neg (nI_ne0 (by omega) (by omega))]
      have hcn : flC cells ce k = flC cells ce (k + 1) := by rw [flC, if_neg (fun q => q1 q.1), Nat.add_zero]
      rw [hcn]
      exact ih (k + 1) f m (by omega) (by omega) (keep (by rw [fl_new, if_neg q1])) hfr
end FILL
/-- fill -/
theorem op_fill {t : Nat} (ht : t < 4) {cells six m_rows m_cell : Nat → Int32} {rows : Int32} (h : tabRel t cells six rows m_rows m_cell) {o : Nat → Int32} (ho : overRel o) (hr hc hs ce su : Nat → Int32) : ∃ q hr' hc' hs' ce' y1 y2 y3 y4 y5 cells' six' m_cell' o' su', mX6_fill_i hr hc hs ce cells six rows (nI t) = some (q, hr', hc', hs', ce', y1, y2, y3, y4, y5, cells', six') ∧ mX7_fill m_rows m_cell o su (nI t) = some (q, m_cell', o', su') ∧ overRel o' ∧ tabRel t cells' six' rows m_rows m_cell' ∧ frm t m_cell m_cell' := by
  obtain ⟨r, h1, h2, rfl, h4, h5⟩ := h
  obtain ⟨hr', hc', hs', ce', k', a', b', c', o', su', g1, g2, g3, g4⟩ := q_gather ht h1 h2 h4 h5 hr hc hs ce ho su
  rw [mX6_fill_i, mX7_fill, q_isT ht, Option.bind_some, if_neg h10, g1, g2, Option.bind_some, Option.bind_some]
  have z0 : ∀ c, flV cells ce' 0 c = cv cells c := fun c => by rw [flV, if_neg (by omega)]
  obtain ⟨x1, x2, e1, e2⟩ := q_flx h2 h5 g4 (fun (y3_97 : Int32) (t_cells_97 : Nat → Int32) (t_sixties_97 : Nat → Int32) => (some (y3_97, hr', hc', hs', ce', k', nI r, a', b', c', t_cells_97, t_sixties_97))) r 0 kN cells six (by omega) (by have : kN = 5000 := rfl; omega) (fun c hc => by
    obtain ⟨-, c2, -, c4, -⟩ := cell_v h5 hc
    rw [show 3 * 0 = 0 from rfl, z0]
    exact ⟨c2, c4⟩)
  obtain ⟨m', e3, e4, e5⟩ := q_flm ht h2 h4 h5 g4 (fun (y2_79 : Int32) (m_cell_79 : Nat → Int32) => (some (y2_79, m_cell_79, o', su'))) (3 * r) 0 kN m_cell (by omega) (by have : kN = 5000 := rfl; omega) (fun c hc => by
    obtain ⟨-, -, c3, -, -⟩ := cell_v h5 hc
    rw [z0]
    exact c3) (frm_refl _ _)
  refine ⟨_, _, _, _, _, _, _, _, _, _, x1, x2, m', o', su', e1, e3, g3, ⟨r, h1, h2, rfl, h4, fun c hc => ⟨flV cells ce' (3 * r) c, ?_, (e2 c hc).1, e4 c hc, (e2 c hc).2, fun q => ?_⟩⟩, e5⟩
  · rw [flV]
    by_cases q : c < 3 * r ∧ cv cells c = 0
    · rw [if_pos q]; exact (suF_v g4 h2 q.1).1
    · rw [if_neg q]; exact (cell_v h5 hc).1
  · rw [flV, if_neg (by omega)]
    exact (cell_v h5 hc).2.2.2.2 q
theorem op_fill_o {x : Int32} (hx : x < 0 ∨ nI 4 ≤ x) (m_rows m_cell o su : Nat → Int32) : mX7_fill m_rows m_cell o su x = some (-1, m_cell, o, su) := by
  rw [mX7_fill, q_isTo hx]; rfl
