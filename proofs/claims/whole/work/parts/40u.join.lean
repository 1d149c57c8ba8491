/-! JOINS -/
def cv (f : Nat → Int32) (c : Nat) : Nat := (f c).toNatClampNeg
theorem cell_v {t r : Nat} {cells six m_cell : Nat → Int32} (h : cellRel t r cells six m_cell) {c : Nat} (hc : c < 24) : cv cells c ≤ 12959999 ∧ cells c = nI (cv cells c) ∧ m_cell (24 * t + c) = nI (cv cells c) ∧ six c = nI (sx (cv cells c)) ∧ (3 * r ≤ c → cv cells c = 0) := by
  obtain ⟨v, a1, a2, a3, a4, a5⟩ := h c hc
  have e : cv cells c = v := by rw [cv, a2, nI_clamp (by omega)]
  rw [e]
  exact ⟨a1, a2, a3, a4, a5⟩
theorem sx_z {v : Nat} : sx v = 0 ↔ v = 0 := by
  constructor
  · intro h
    rcases Nat.eq_zero_or_pos v with q | q
    · exact q
    · have := sx_pos (n := v) q; omega
  · intro h; rw [h, sx0]
theorem sxI0 {v : Nat} (hv : v ≤ 12959999) : (nI (sx v) = 0) ↔ v = 0 := by
  have := sx_le v
  rw [← sx_z (v := v)]
  exact nI_eq (b := 0) (by omega) (by decide)
def jP (s : Nat) (tc uc : Nat → Int32) (k : Nat) : Prop := cv tc (3 * s + k) = 0 ∨ cv uc k = 0 ∨ sx (cv tc (3 * s + k)) = sx (cv uc k)
theorem q_agr2 {v n : Nat} (hv : v ≤ 12959999) (hn : n ≤ 12959999) : (mX7_agree (nI v) (nI n) = some 1 ∧ (v = 0 ∨ n = 0 ∨ sx v = sx n)) ∨ (mX7_agree (nI v) (nI n) = some 0 ∧ ¬ (v = 0 ∨ n = 0 ∨ sx v = sx n)) := by
  by_cases h0 : n = 0
  · subst h0
    left
    refine ⟨?_, .inr (.inl rfl)⟩
    rw [mX7_agree]
    by_cases q : nI v = 0
    · rw [if_pos q]
    · rw [if_neg q, if_pos nI_0]
  · rw [q_agree hv (by omega) (by omega), agr]
    by_cases h : v = 0 ∨ sx v = sx n
    · left
      rw [if_pos h]
      exact ⟨rfl, h.imp id .inr⟩
    · right
      rw [if_neg h]
      refine ⟨rfl, fun q => h ?_⟩
      rcases q with q | q | q
      · exact .inl q
      · exact absurd q h0
      · exact .inr q
theorem fx_step (x2 x3 : Int32) (ts us : Nat → Int32) (kE : Unit → Option Int32) (n : Nat) (x4 : Int32) : mlX3_fits_13 x2 x3 ts us kE (n + 1) x4 = (if (3 : Int32) ≤ x4 then kE () else Option.bind (mX3_heldSixty us x3 x4) (fun u3 => Option.bind (mX3_heldSixty ts (x2 + x3) x4) (fun u4 => if u3 = 0 then mlX3_fits_13 x2 x3 ts us kE n (x4 + 1) else if u4 = 0 then mlX3_fits_13 x2 x3 ts us kE n (x4 + 1) else if u3 = u4 then mlX3_fits_13 x2 x3 ts us kE n (x4 + 1) else some 0))) := by
  rw [mlX3_fits_13]
  simp only [md_jnP, md_letP]
theorem jm_step (x1 x2 x3 : Int32) (mr mc : Nat → Int32) (kE : Unit → Option (Int32 × (Nat → Int32) × (Nat → Int32))) (n : Nat) (x4 : Int32) : mlX7_join_68 x1 x2 x3 mr mc kE (n + 1) x4 = (if x2 < 0 ∨ 4 ≤ x2.toNatClampNeg then none else if (3 : Int32) * mr x2.toNatClampNeg ≤ x4 then kE () else if x1 < 0 ∨ 4 ≤ x1.toNatClampNeg then none else if (3 : Int32) * mr x1.toNatClampNeg ≤ (3 : Int32) * x3 + x4 then mlX7_join_68 x1 x2 x3 mr mc kE n (x4 + 1) else if ((24 : Int32) * x1 + (3 : Int32) * x3 + x4) < 0 ∨ 96 ≤ ((24 : Int32) * x1 + (3 : Int32) * x3 + x4).toNatClampNeg then none else if ((24 : Int32) * x2 + x4) < 0 ∨ 96 ≤ ((24 : Int32) * x2 + x4).toNatClampNeg then none else Option.bind (mX7_agree (mc ((24 : Int32) * x1 + (3 : Int32) * x3 + x4).toNatClampNeg) (mc ((24 : Int32) * x2 + x4).toNatClampNeg)) (fun u19 => if u19 = 0 then some (-5, mr, mc) else mlX7_join_68 x1 x2 x3 mr mc kE n (x4 + 1))) := by
  rw [mlX7_join_68]
  simp only [md_jnP, md_letP]
theorem tk_step (x2 x3 : Int32) (uc : Nat → Int32) (kE : (Nat → Int32) → (Nat → Int32) → Option ((Nat → Int32) × (Nat → Int32) × Int32)) (n : Nat) (x4 : Int32) (a b : Nat → Int32) : mlX3_take_35 x2 x3 uc kE (n + 1) x4 a b = (if (3 : Int32) ≤ x4 then kE a b else Option.bind (mX3_held a (x2 + x3) x4) (fun u4 => if u4 = 0 then Option.bind (mX3_held uc x3 x4) (fun u7 => Option.bind (mX3_hold a b (x2 + x3) x4 u7) (fun u8 => mlX3_take_35 x2 x3 uc kE n (x4 + 1) u8.1 u8.2)) else mlX3_take_35 x2 x3 uc kE n (x4 + 1) a b)) := by
  rw [mlX3_take_35]
  simp only [md_jnP, md_letP]
theorem jl_step (x1 x2 x3 : Int32) (mr : Nat → Int32) (kE : (Nat → Int32) → Option (Int32 × (Nat → Int32) × (Nat → Int32))) (n : Nat) (x4 : Int32) (mc : Nat → Int32) (h1 : ¬ (x1 < 0 ∨ 4 ≤ x1.toNatClampNeg)) (h2 : ¬ (x2 < 0 ∨ 4 ≤ x2.toNatClampNeg)) (h3 : ¬ (((24 : Int32) * x1 + (3 : Int32) * x3 + x4) < 0 ∨ 96 ≤ ((24 : Int32) * x1 + (3 : Int32) * x3 + x4).toNatClampNeg)) (h4 : ¬ (((24 : Int32) * x2 + x4) < 0 ∨ 96 ≤ ((24 : Int32) * x2 + x4).toNatClampNeg)) : mlX7_join_144 x1 x2 x3 mr kE (n + 1) x4 mc = (if (3 : Int32) * mr x2.toNatClampNeg ≤ x4 then kE mc else mlX7_join_144 x1 x2 x3 mr kE n (x4 + 1) (upd mc ((24 : Int32) * x1 + (3 : Int32) * x3 + x4).toNatClampNeg (if (3 : Int32) * mr x1.toNatClampNeg ≤ (3 : Int32) * x3 + x4 then mc ((24 : Int32) * x2 + x4).toNatClampNeg else if mc ((24 : Int32) * x1 + (3 : Int32) * x3 + x4).toNatClampNeg ≤ 0 then mc ((24 : Int32) * x2 + x4).toNatClampNeg else mc ((24 : Int32) * x1 + (3 : Int32) * x3 + x4).toNatClampNeg))) := by
  rw [mlX7_join_144]
  simp only [md_jnP, md_letP, if_neg h1, if_neg h2, if_neg h3, if_neg h4]
  by_cases g1 : (3 : Int32) * mr x1.toNatClampNeg ≤ (3 : Int32) * x3 + x4
  · simp only [if_pos g1, w00, if_true]
  · by_cases g2 : mc ((24 : Int32) * x1 + (3 : Int32) * x3 + x4).toNatClampNeg ≤ 0
    · simp only [if_neg g1, if_pos g2, w00, if_true]
    · simp only [if_neg g1, if_neg g2, w10, if_false]
section JOIN
variable {t u s rt ru : Nat} {tc ts uc us m_rows m_cell : Nat → Int32}
theorem q_fx_in (hT : cellRel t rt tc ts m_cell) (hU : cellRel u ru uc us m_cell) (h8 : s + ru ≤ 8) {i : Nat} (hi : i < ru) (kE : Unit → Option Int32) : ∀ (d j f : Nat), j + d = 3 → d < f → ((∀ j', j ≤ j' → j' < 3 → jP s tc uc (3 * i + j')) ∧ mlX3_fits_13 (nI s) (nI i) ts us kE f (nI j) = kE ()) ∨ ((∃ k, k < 3 * ru ∧ ¬ jP s tc uc k) ∧ mlX3_fits_13 (nI s) (nI i) ts us kE f (nI j) = some 0) := by
  intro d
  induction d with
  | zero =>
    intro j f hj hf
    obtain ⟨f, rfl⟩ : ∃ z, f = z + 1 := ⟨f - 1, by omega⟩
    left
    refine ⟨fun j' h1 h2 => by omega, ?_⟩
    rw [fx_step, if_pos (show (3 : Int32) ≤ nI j from (nI_leI (a := 3) (by decide) (by omega)).mpr (by omega))]
  | succ d ih =>
    intro j f hj hf
    obtain ⟨f, rfl⟩ : ∃ z, f = z + 1 := ⟨f - 1, by omega⟩
    obtain ⟨u1, -, -, u4, -⟩ := cell_v hU (c := 3 * i + j) (by omega)
    obtain ⟨t1, -, -, t4, -⟩ := cell_v hT (c := 3 * (s + i) + j) (by omega)
    have hlu := sx_le (cv uc (3 * i + j))
    have hlt := sx_le (cv tc (3 * (s + i) + j))
    have e1 : nI j + (1 : Int32) = nI (j + 1) := nI_1 j
    have hP : jP s tc uc (3 * i + j) ↔ (cv tc (3 * (s + i) + j) = 0 ∨ cv uc (3 * i + j) = 0 ∨ sx (cv tc (3 * (s + i) + j)) = sx (cv uc (3 * i + j))) := by
      rw [jP, show 3 * s + (3 * i + j) = 3 * (s + i) + j by omega]
    rw [fx_step, if_neg (show ¬ (3 : Int32) ≤ nI j from fun q => by have := (nI_leI (a := 3) (by decide) (by omega)).mp q; omega), q_heldSixty (by omega) (by omega), Option.bind_some, nI_add, q_heldSixty (by omega) (by omega), Option.bind_some, u4, t4, e1]
    have go : jP s tc uc (3 * i + j) → ((∀ j', j ≤ j' → j' < 3 → jP s tc uc (3 * i + j')) ∧ mlX3_fits_13 (nI s) (nI i) ts us kE f (nI (j + 1)) = kE ()) ∨ ((∃ k, k < 3 * ru ∧ ¬ jP s tc uc k) ∧ mlX3_fits_13 (nI s) (nI i) ts us kE f (nI (j + 1)) = some 0) := by
      intro hp
      rcases ih (j + 1) f (by omega) (by omega) with ⟨a, b⟩ | q
      · left
        refine ⟨fun j' h1 h2 => ?_, b⟩
        rcases Nat.eq_or_lt_of_le h1 with q | q
        · subst q; exact hp
        · exact a j' (by omega) h2
      · exact .inr q
    by_cases g1 : cv uc (3 * i + j) = 0
    · rw [if_pos ((sxI0 u1).mpr g1)]
      exact go (hP.mpr (.inr (.inl g1)))
    · rw [if_neg (fun q => g1 ((sxI0 u1).mp q))]
      by_cases g2 : cv tc (3 * (s + i) + j) = 0
      · rw [if_pos ((sxI0 t1).mpr g2)]
        exact go (hP.mpr (.inl g2))
      · rw [if_neg (fun q => g2 ((sxI0 t1).mp q))]
        by_cases g3 : sx (cv tc (3 * (s + i) + j)) = sx (cv uc (3 * i + j))
        · rw [if_pos (by rw [g3])]
          exact go (hP.mpr (.inr (.inr g3)))
        · rw [if_neg (fun q => g3 ((nI_eq (by omega) (by omega)).mp q).symm)]
          right
          exact ⟨⟨3 * i + j, by omega, fun q => by rcases hP.mp q with q | q | q; exact g2 q; exact g1 q; exact g3 q⟩, rfl⟩
theorem q_fx (hT : cellRel t rt tc ts m_cell) (hU : cellRel u ru uc us m_cell) (h8 : s + ru ≤ 8) (kE : Unit → Option Int32) : ∀ (d i f : Nat), i + d = ru → d < f → ((∀ k, 3 * i ≤ k → k < 3 * ru → jP s tc uc k) ∧ mlX3_fits_2 (nI s) ts us (nI ru) kE f (nI i) = kE ()) ∨ ((∃ k, k < 3 * ru ∧ ¬ jP s tc uc k) ∧ mlX3_fits_2 (nI s) ts us (nI ru) kE f (nI i) = some 0) := by
  intro d
  induction d with
  | zero =>
    intro i f hi hf
    obtain ⟨f, rfl⟩ : ∃ z, f = z + 1 := ⟨f - 1, by omega⟩
    left
    refine ⟨fun k h1 h2 => by omega, ?_⟩
    rw [mlX3_fits_2, if_pos ((nI_leI (by omega) (by omega)).mpr (by omega))]
  | succ d ih =>
    intro i f hi hf
    obtain ⟨f, rfl⟩ : ∃ z, f = z + 1 := ⟨f - 1, by omega⟩
    rw [mlX3_fits_2, if_neg (show ¬ nI ru ≤ nI i from fun q => by have := (nI_leI (by omega) (by omega)).mp q; omega)]
    rcases q_fx_in hT hU h8 (i := i) (by omega) (fun (u_64 : Unit) => (md_let (nI i + (1 : Int32)) (fun (x3_9 : Int32) => (mlX3_fits_2 (nI s) ts us (nI ru) kE f x3_9)))) 3 0 kN rfl (by decide) with ⟨a, b⟩ | ⟨a, b⟩
    · rw [show (0 : Int32) = nI 0 from rfl, b, md_letP, show nI i + (1 : Int32) = nI (i + 1) from nI_1 i]
      rcases ih (i + 1) f (by omega) (by omega) with ⟨c, e⟩ | q
      · left
        refine ⟨fun k h1 h2 => ?_, e⟩
        by_cases hk : k < 3 * (i + 1)
        · have := a (k - 3 * i) (by omega) (by omega)
          rw [show 3 * i + (k - 3 * i) = k by omega] at this
          exact this
        · exact c k (by omega) h2
      · exact .inr q
    · right
      exact ⟨a, b⟩
theorem q_jm (ht : t < 4) (hu : u < 4) (hrt : rt ≤ 8) (hmt : m_rows t = nI rt) (hmu : m_rows u = nI ru) (hT : cellRel t rt tc ts m_cell) (hU : cellRel u ru uc us m_cell) (h8 : s + ru ≤ 8) (kE : Unit → Option (Int32 × (Nat → Int32) × (Nat → Int32))) : ∀ (d k f : Nat), k + d = 3 * ru → d < f → ((∀ k', k ≤ k' → k' < 3 * ru → jP s tc uc k') ∧ mlX7_join_68 (nI t) (nI u) (nI s) m_rows m_cell kE f (nI k) = kE ()) ∨ ((∃ k, k < 3 * ru ∧ ¬ jP s tc uc k) ∧ mlX7_join_68 (nI t) (nI u) (nI s) m_rows m_cell kE f (nI k) = some (-5, m_rows, m_cell)) := by
  intro d
  induction d with
  | zero =>
    intro k f hk hf
    obtain ⟨f, rfl⟩ : ∃ z, f = z + 1 := ⟨f - 1, by omega⟩
    left
    refine ⟨fun k h1 h2 => by omega, ?_⟩
    rw [jm_step, if_neg (nI_in hu (by decide)), nI_clamp (by omega), hmu, show (3 : Int32) * nI ru = nI (3 * ru) from pk_mul 3 ru, if_pos ((nI_leI (by omega) (by omega)).mpr (by omega))]
  | succ d ih =>
    intro k f hk hf
    obtain ⟨f, rfl⟩ : ∃ z, f = z + 1 := ⟨f - 1, by omega⟩
    obtain ⟨u1, -, u3, -, -⟩ := cell_v hU (c := k) (by omega)
    obtain ⟨t1, -, t3, -, t5⟩ := cell_v hT (c := 3 * s + k) (by omega)
    have e1 : nI k + (1 : Int32) = nI (k + 1) := nI_1 k
    have go : jP s tc uc k → ((∀ k', k ≤ k' → k' < 3 * ru → jP s tc uc k') ∧ mlX7_join_68 (nI t) (nI u) (nI s) m_rows m_cell kE f (nI (k + 1)) = kE ()) ∨ ((∃ k, k < 3 * ru ∧ ¬ jP s tc uc k) ∧ mlX7_join_68 (nI t) (nI u) (nI s) m_rows m_cell kE f (nI (k + 1)) = some (-5, m_rows, m_cell)) := by
      intro hp
      rcases ih (k + 1) f (by omega) (by omega) with ⟨a, b⟩ | q
      · left
        refine ⟨fun k' h1 h2 => ?_, b⟩
        rcases Nat.eq_or_lt_of_le h1 with q | q
        · subst q; exact hp
        · exact a k' (by omega) h2
      · exact .inr q
    rw [jm_step, if_neg (nI_in hu (by decide)), if_neg (nI_in ht (by decide)), nI_clamp (n := u) (by omega), nI_clamp (n := t) (by omega), hmu, hmt, show (3 : Int32) * nI ru = nI (3 * ru) from pk_mul 3 ru, show (3 : Int32) * nI rt = nI (3 * rt) from pk_mul 3 rt, show (3 : Int32) * nI s = nI (3 * s) from pk_mul 3 s, show (24 : Int32) * nI t = nI (24 * t) from pk_mul 24 t, show (24 : Int32) * nI u = nI (24 * u) from pk_mul 24 u, nI_add, nI_add, nI_add, nI_add, e1, if_neg (show ¬ nI (3 * ru) ≤ nI k from fun q => by have := (nI_leI (by omega) (by omega)).mp q; omega)]
    by_cases hb : 3 * rt ≤ 3 * s + k
    · rw [if_pos ((nI_leI (by omega) (by omega)).mpr hb)]
      exact go (.inl (t5 hb))
    · rw [if_neg (show ¬ nI (3 * rt) ≤ nI (3 * s + k) from fun q => hb ((nI_leI (by omega) (by omega)).mp q)), if_neg (nI_in (N := 96) (by omega) (by decide)), if_neg (nI_in (N := 96) (by omega) (by decide)), nI_clamp (by omega), nI_clamp (by omega), show 24 * t + 3 * s + k = 24 * t + (3 * s + k) by omega, t3, u3]
      rcases q_agr2 t1 u1 with ⟨a, b⟩ | ⟨a, b⟩
      · rw [a, Option.bind_some, if_neg h10]
        exact go b
      · rw [a, Option.bind_some, if_pos (show (0 : Int32) = 0 from rfl)]
        right
        exact ⟨⟨k, by omega, b⟩, rfl⟩
def jv (s : Nat) (tc uc : Nat → Int32) (k c : Nat) : Nat := if 3 * s ≤ c ∧ c < 3 * s + k ∧ cv tc c = 0 then cv uc (c - 3 * s) else cv tc c
theorem jv_at (s : Nat) (tc uc : Nat → Int32) (k : Nat) : jv s tc uc k (3 * s + k) = cv tc (3 * s + k) := by rw [jv, if_neg (by omega)]
theorem jv_new (s : Nat) (tc uc : Nat → Int32) (k : Nat) : jv s tc uc (k + 1) (3 * s + k) = if cv tc (3 * s + k) = 0 then cv uc k else cv tc (3 * s + k) := by
  rw [jv]
  by_cases h : cv tc (3 * s + k) = 0
  · rw [if_pos ⟨by omega, by omega, h⟩, if_pos h, Nat.add_sub_cancel_left]
  · rw [if_neg (fun q => h q.2.2), if_neg h]
theorem jv_old {s : Nat} (tc uc : Nat → Int32) {k c : Nat} (h : c ≠ 3 * s + k) : jv s tc uc (k + 1) c = jv s tc uc k c := by
  rw [jv, jv]
  by_cases q : 3 * s ≤ c ∧ c < 3 * s + k ∧ cv tc c = 0
  · rw [if_pos q, if_pos ⟨q.1, by omega, q.2.2⟩]
  · rw [if_neg q, if_neg (fun p => q ⟨p.1, by omega, p.2.2⟩)]
theorem jv_0 (s : Nat) (tc uc : Nat → Int32) (c : Nat) : jv s tc uc 0 c = cv tc c := by rw [jv, if_neg (by omega)]
theorem q_tk_in (hT : cellRel t rt tc ts m_cell) (hU : cellRel u ru uc us m_cell) (h8 : s + ru ≤ 8) {i : Nat} (hi : i < ru) (kE : (Nat → Int32) → (Nat → Int32) → Option ((Nat → Int32) × (Nat → Int32) × Int32)) : ∀ (d j f : Nat) (a b : Nat → Int32), j + d = 3 → d < f → (∀ c, c < 24 → a c = nI (jv s tc uc (3 * i + j) c) ∧ b c = nI (sx (jv s tc uc (3 * i + j) c))) → ∃ a' b', mlX3_take_35 (nI s) (nI i) uc kE f (nI j) a b = kE a' b' ∧ ∀ c, c < 24 → a' c = nI (jv s tc uc (3 * (i + 1)) c) ∧ b' c = nI (sx (jv s tc uc (3 * (i + 1)) c)) := by
  intro d
  induction d with
  | zero =>
    intro j f a b hj hf hs
    obtain ⟨f, rfl⟩ : ∃ z, f = z + 1 := ⟨f - 1, by omega⟩
    rw [tk_step, if_pos (show (3 : Int32) ≤ nI j from (nI_leI (a := 3) (by decide) (by omega)).mpr (by omega))]
    refine ⟨a, b, rfl, ?_⟩
    rw [show 3 * (i + 1) = 3 * i + j by omega]
    exact hs
  | succ d ih =>
    intro j f a b hj hf hs
    obtain ⟨f, rfl⟩ : ∃ z, f = z + 1 := ⟨f - 1, by omega⟩
    obtain ⟨u1, u2, -, -, -⟩ := cell_v hU (c := 3 * i + j) (by omega)
    obtain ⟨t1, -, -, -, -⟩ := cell_v hT (c := 3 * s + (3 * i + j)) (by omega)
    have e1 : nI j + (1 : Int32) = nI (j + 1) := nI_1 j
    have ea := (hs (3 * s + (3 * i + j)) (by omega)).1
    rw [jv_at] at ea
    rw [tk_step, if_neg (show ¬ (3 : Int32) ≤ nI j from fun q => by have := (nI_leI (a := 3) (by decide) (by omega)).mp q; omega), nI_add, q_held (by omega) (by omega), Option.bind_some, show 3 * (s + i) + j = 3 * s + (3 * i + j) by omega, ea, e1]
    by_cases h0 : cv tc (3 * s + (3 * i + j)) = 0
    · rw [if_pos (by rw [h0]; rfl), q_held (by omega) (by omega), Option.bind_some, u2, q_hold (by omega) (by omega) u1, Option.bind_some, show 3 * (s + i) + j = 3 * s + (3 * i + j) by omega]
      refine ih (j + 1) f _ _ (by omega) (by omega) (fun c hc => ?_)
      rw [show 3 * i + (j + 1) = (3 * i + j) + 1 by omega]
      by_cases e : c = 3 * s + (3 * i + j)
      · subst e
        rw [jv_new, if_pos h0]
        exact ⟨pk_us, pk_us⟩
      · rw [jv_old _ _ e]
        exact ⟨(pk_un e).trans (hs c hc).1, (pk_un e).trans (hs c hc).2⟩
    · rw [if_neg (nI_ne0 (by omega) (by omega))]
      refine ih (j + 1) f _ _ (by omega) (by omega) (fun c hc => ?_)
      rw [show 3 * i + (j + 1) = (3 * i + j) + 1 by omega]
      by_cases e : c = 3 * s + (3 * i + j)
      · subst e
        rw [jv_new, if_neg h0]
        have := hs _ hc
        rw [jv_at] at this
        exact this
      · rw [jv_old _ _ e]
        exact hs c hc
theorem q_tk (hT : cellRel t rt tc ts m_cell) (hU : cellRel u ru uc us m_cell) (h8 : s + ru ≤ 8) (kE : (Nat → Int32) → (Nat → Int32) → Option ((Nat → Int32) × (Nat → Int32) × Int32)) : ∀ (d i f : Nat) (a b : Nat → Int32), i + d = ru → d < f → (∀ c, c < 24 → a c = nI (jv s tc uc (3 * i) c) ∧ b c = nI (sx (jv s tc uc (3 * i) c))) → ∃ a' b', mlX3_take_24 (nI s) uc (nI ru) kE f (nI i) a b = kE a' b' ∧ ∀ c, c < 24 → a' c = nI (jv s tc uc (3 * ru) c) ∧ b' c = nI (sx (jv s tc uc (3 * ru) c)) := by
  intro d
  induction d with
  | zero =>
    intro i f a b hi hf hs
    obtain ⟨f, rfl⟩ : ∃ z, f = z + 1 := ⟨f - 1, by omega⟩
    obtain rfl : i = ru := by omega
    rw [mlX3_take_24, if_pos ((nI_leI (by omega) (by omega)).mpr (Nat.le_refl _))]
    exact ⟨a, b, rfl, hs⟩
  | succ d ih =>
    intro i f a b hi hf hs
    obtain ⟨f, rfl⟩ : ∃ z, f = z + 1 := ⟨f - 1, by omega⟩
    rw [mlX3_take_24, if_neg (show ¬ nI ru ≤ nI i from fun q => by have := (nI_leI (by omega) (by omega)).mp q; omega)]
    obtain ⟨a1, b1, e1, e2⟩ := q_tk_in hT hU h8 (i := i) (by omega) (fun (t_cells_75 : Nat → Int32) (t_sixties_75 : Nat → Int32) => (md_let (nI i + (1 : Int32)) (fun (x3_9 : Int32) => (mlX3_take_24 (nI s) uc (nI ru) kE f x3_9 t_cells_75 t_sixties_75)))) 3 0 kN a b rfl (by decide) hs
    obtain ⟨a2, b2, e3, e4⟩ := ih (i + 1) f a1 b1 (by omega) (by omega) e2
    refine ⟨a2, b2, ?_, e4⟩
    rw [show (0 : Int32) = nI 0 from rfl, e1, md_letP, show nI i + (1 : Int32) = nI (i + 1) from nI_1 i]
    exact e3
theorem q_jl (ht : t < 4) (hu : u < 4) (htu : u ≠ t) (hrt : rt ≤ 8) (hmt : m_rows t = nI rt) (hmu : m_rows u = nI ru) (hT : cellRel t rt tc ts m_cell) (hU : cellRel u ru uc us m_cell) (h8 : s + ru ≤ 8) (kE : (Nat → Int32) → Option (Int32 × (Nat → Int32) × (Nat → Int32))) : ∀ (d k f : Nat) (m : Nat → Int32), k + d = 3 * ru → d < f → (∀ c, c < 24 → m (24 * t + c) = nI (jv s tc uc k c)) → frm t m_cell m → ∃ m', mlX7_join_144 (nI t) (nI u) (nI s) m_rows kE f (nI k) m = kE m' ∧ (∀ c, c < 24 → m' (24 * t + c) = nI (jv s tc uc (3 * ru) c)) ∧ frm t m_cell m' := by
  intro d
  induction d with
  | zero =>
    intro k f m hk hf hs hfr
    obtain ⟨f, rfl⟩ : ∃ z, f = z + 1 := ⟨f - 1, by omega⟩
    obtain rfl : k = 3 * ru := by omega
    rw [mlX7_join_144, if_neg (nI_in hu (by decide)), nI_clamp (by omega), hmu, show (3 : Int32) * nI ru = nI (3 * ru) from pk_mul 3 ru, if_pos ((nI_leI (by omega) (by omega)).mpr (Nat.le_refl _))]
    exact ⟨m, rfl, hs, hfr⟩
  | succ d ih =>
    intro k f m hk hf hs hfr
    obtain ⟨f, rfl⟩ : ∃ z, f = z + 1 := ⟨f - 1, by omega⟩
    obtain ⟨u1, -, u3, -, -⟩ := cell_v hU (c := k) (by omega)
    obtain ⟨t1, -, -, -, t5⟩ := cell_v hT (c := 3 * s + k) (by omega)
    have e1 : nI k + (1 : Int32) = nI (k + 1) := nI_1 k
    have et := hs (3 * s + k) (by omega)
    rw [jv_at] at et
    have eu : m (24 * u + k) = nI (cv uc k) := (hfr _ (by omega)).trans u3
    have x1 : (24 : Int32) * nI t + (3 : Int32) * nI s + nI k = nI (24 * t + (3 * s + k)) := by
      rw [show (3 : Int32) * nI s = nI (3 * s) from pk_mul 3 s, show (24 : Int32) * nI t = nI (24 * t) from pk_mul 24 t, nI_add, nI_add, Nat.add_assoc]
    have x2 : (24 : Int32) * nI u + nI k = nI (24 * u + k) := by
      rw [show (24 : Int32) * nI u = nI (24 * u) from pk_mul 24 u, nI_add]
    rw [jl_step _ _ _ _ _ _ _ _ (nI_in ht (by decide)) (nI_in hu (by decide)) (by rw [x1]; exact nI_in (N := 96) (by omega) (by decide)) (by rw [x2]; exact nI_in (N := 96) (by omega) (by decide)), x1, x2, nI_clamp (n := u) (by omega), nI_clamp (n := t) (by omega), hmu, hmt, nI_clamp (by omega), nI_clamp (by omega), et, eu, show (3 : Int32) * nI ru = nI (3 * ru) from pk_mul 3 ru, show (3 : Int32) * nI rt = nI (3 * rt) from pk_mul 3 rt, show (3 : Int32) * nI s = nI (3 * s) from pk_mul 3 s, nI_add, if_neg (show ¬ nI (3 * ru) ≤ nI k from fun q => by have := (nI_leI (by omega) (by omega)).mp q; omega), e1]
    have ev : (if nI (3 * rt) ≤ nI (3 * s + k) then nI (cv uc k) else if nI (cv tc (3 * s + k)) ≤ 0 then nI (cv uc k) else nI (cv tc (3 * s + k))) = nI (jv s tc uc (k + 1) (3 * s + k)) := by
      rw [jv_new]
      by_cases h0 : cv tc (3 * s + k) = 0
      · rw [if_pos h0, if_pos (show nI (cv tc (3 * s + k)) ≤ 0 from by rw [h0]; decide)]
        by_cases hb : nI (3 * rt) ≤ nI (3 * s + k)
        · rw [if_pos hb]
        · rw [if_neg hb]
      · rw [if_neg h0, if_neg (fun q => h0 (t5 ((nI_leI (by omega) (by omega)).mp q))), if_neg (nI_nle (by omega) (by omega))]
    rw [ev]
    refine ih (k + 1) f _ (by omega) (by omega) (fun c hc => ?_) (frm_trans hfr (frm_upd (by omega) _ _))
    by_cases e : c = 3 * s + k
    · subst e; exact pk_us
    · rw [jv_old _ _ e, pk_un (by omega)]
      exact hs c hc
end JOIN
theorem jf_step (mr mc : Nat → Int32) (p1 p2 p3 : Int32) (h1 : ¬ (p1 < 0 ∨ 4 ≤ p1.toNatClampNeg)) (h2 : ¬ (p2 < 0 ∨ 4 ≤ p2.toNatClampNeg)) : mX7_join mr mc p1 p2 p3 = Option.bind (mX7_isTablet p1) (fun u1 => if u1 = 0 then some (-1, mr, mc) else Option.bind (mX7_isTablet p2) (fun u3 => if u3 = 0 then some (-1, mr, mc) else if p1 = p2 then some (-1, mr, mc) else Option.bind (mX7_in (Int32.toInt64 p3) (0 : Int64) (7 : Int64)) (fun u6 => if u6 = 0 then some (-2, mr, mc) else if p3 ≤ mr p1.toNatClampNeg then (if p3 + mr p2.toNatClampNeg ≤ (8 : Int32) then mlX7_join_68 p1 p2 p3 mr mc (fun _ => mlX7_join_144 p1 p2 p3 mr (fun m' => some ((upd mr p1.toNatClampNeg (if p3 + mr p2.toNatClampNeg ≤ mr p1.toNatClampNeg then mr p1.toNatClampNeg else p3 + mr p2.toNatClampNeg)) p1.toNatClampNeg, upd mr p1.toNatClampNeg (if p3 + mr p2.toNatClampNeg ≤ mr p1.toNatClampNeg then mr p1.toNatClampNeg else p3 + mr p2.toNatClampNeg), m')) kN (0 : Int32) mc) kN (0 : Int32) else some (-4, mr, mc)) else some (-3, mr, mc)))) := by
  rw [mX7_join]
  simp only [md_jnP, md_letP, if_neg h1, if_neg h2]
  by_cases h : p3 + mr p2.toNatClampNeg ≤ mr p1.toNatClampNeg
  · simp only [if_pos h]
  · simp only [if_neg h]
/-- join -/
theorem op_join {t u : Nat} (ht : t < 4) (hu : u < 4) (htu : t ≠ u) {tc ts uc us m_rows m_cell : Nat → Int32} {tr ur : Int32} (hT : tabRel t tc ts tr m_rows m_cell) (hU : tabRel u uc us ur m_rows m_cell) (p3 : Int32) : ∃ r tc' ts' tr' m_rows' m_cell', mX6_join_i tc ts tr uc us ur (nI t) (nI u) p3 = some (r, tc', ts', tr') ∧ mX7_join m_rows m_cell (nI t) (nI u) p3 = some (r, m_rows', m_cell') ∧ tabRel t tc' ts' tr' m_rows' m_cell' ∧ frm t m_cell m_cell' ∧ ∀ w, w ≠ t → m_rows' w = m_rows w := by
  have hT' := hT
  obtain ⟨rt, t1, t2, rfl, t4, t5⟩ := hT
  obtain ⟨ru, u1, u2, rfl, u4, u5⟩ := hU
  have hne : ¬ nI t = nI u := fun q => htu ((nI_eq (by omega) (by omega)).mp q)
  rw [mX6_join_i, jf_step _ _ _ _ _ (nI_in ht (by decide)) (nI_in hu (by decide)), q_isT ht, q_isT hu, Option.bind_some, if_neg h10, Option.bind_some, if_neg h10, if_neg hne, if_neg hne, nI_clamp (n := t) (by omega), nI_clamp (n := u) (by omega), t4, u4, show (7 : Int64) = lN 7 from rfl]
  rcases q_inI p3 (n := 7) (by decide) with ⟨hz, hc, -⟩ | ⟨s, hs, rfl, hz⟩
  · rw [hz, Option.bind_some, if_pos (show (0 : Int32) = 0 from rfl)]
    refine ⟨-2, tc, ts, nI rt, m_rows, m_cell, ?_, rfl, hT', frm_refl _ _, fun _ _ => rfl⟩
    by_cases h0 : p3 < 0
    · rw [if_pos h0]
    · rw [if_neg h0, if_neg]
      have h6 := hc.resolve_left h0
      rw [Int32.le_iff_toInt_le, nI_toInt (by decide)] at h6
      rw [Int32.lt_iff_toInt_lt]
      have : (8 : Int32).toInt = 8 := by decide
      omega
  · rw [hz, Option.bind_some, if_neg h10, if_neg (nI_pos (by omega)), if_pos (show nI s < (8 : Int32) from (nI_ltI (b := 8) (by omega) (by decide)).mpr (by omega)), mX3_rowCount, mX3_rowCount, Option.bind_some]
    by_cases h3 : s ≤ rt
    · rw [if_pos ((nI_leI (by omega) (by omega)).mpr h3), if_pos ((nI_leI (by omega) (by omega)).mpr h3), Option.bind_some, nI_add]
      by_cases h4 : s + ru ≤ 8
      · have h4' : nI (s + ru) ≤ (8 : Int32) := (nI_leI (b := 8) (by omega) (by decide)).mpr h4
        rw [if_pos h4', if_pos h4', mX3_fits]
        have fX := q_fx t5 u5 h4 (fun (u_70 : Unit) => (some (1 : Int32))) ru 0 kN (by omega) (by have : kN = 5000 := rfl; omega)
        have fM := q_jm ht hu t2 t4 u4 t5 u5 h4 (fun _ => mlX7_join_144 (nI t) (nI u) (nI s) m_rows (fun m' => some ((upd m_rows t (if nI (s + ru) ≤ nI rt then nI rt else nI (s + ru))) t, upd m_rows t (if nI (s + ru) ≤ nI rt then nI rt else nI (s + ru)), m')) kN (0 : Int32) m_cell) (3 * ru) 0 kN (by omega) (by have : kN = 5000 := rfl; omega)
        rw [show nI 0 = (0 : Int32) from nI_0] at fX fM
        rcases fX with ⟨a, b⟩ | ⟨⟨k, hk, hkn⟩, b⟩
        · rcases fM with ⟨a', b'⟩ | ⟨⟨k, hk, hkn⟩, b'⟩
          · rw [b, b', Option.bind_some, if_neg h10, mX3_take, md_letP]
            have hmax : (if (if nI rt < nI s + nI ru then nI s + nI ru else nI rt) < (8 : Int32) then (if nI rt < nI s + nI ru then nI s + nI ru else nI rt) else (8 : Int32)) = nI (max rt (s + ru)) := by
              rw [nI_add]
              have e1 : (if nI rt < nI (s + ru) then nI (s + ru) else nI rt) = nI (max rt (s + ru)) := q_max (by omega) (by omega)
              rw [e1]
              by_cases q : max rt (s + ru) < 8
              · rw [if_pos (show nI (max rt (s + ru)) < (8 : Int32) from (nI_ltI (b := 8) (by omega) (by decide)).mpr q)]
              · rw [if_neg (show ¬ nI (max rt (s + ru)) < (8 : Int32) from fun w => q ((nI_ltI (b := 8) (by omega) (by decide)).mp w)), show max rt (s + ru) = 8 by omega]
                rfl
            have hmx2 : (if nI (s + ru) ≤ nI rt then nI rt else nI (s + ru)) = nI (max rt (s + ru)) := by
              by_cases q : s + ru ≤ rt
              · rw [if_pos ((nI_leI (by omega) (by omega)).mpr q), Nat.max_eq_left q]
              · rw [if_neg (fun w => q ((nI_leI (by omega) (by omega)).mp w)), Nat.max_eq_right (by omega)]
            rw [hmax, hmx2]
            obtain ⟨x1, x2, e1, e2⟩ := q_tk t5 u5 h4 (fun (t_cells_81 : Nat → Int32) (t_sixties_81 : Nat → Int32) => (some (t_cells_81, t_sixties_81, nI (max rt (s + ru))))) ru 0 kN tc ts (by omega) (by have : kN = 5000 := rfl; omega) (fun c hc => by
              obtain ⟨-, c2, -, c4, -⟩ := cell_v t5 hc
              rw [show 3 * 0 = 0 from rfl, jv_0]
              exact ⟨c2, c4⟩)
            obtain ⟨m', e3, e4, e5⟩ := q_jl ht hu (fun q => htu q.symm) t2 t4 u4 t5 u5 h4 (fun m' => some ((upd m_rows t (nI (max rt (s + ru)))) t, upd m_rows t (nI (max rt (s + ru))), m')) (3 * ru) 0 kN m_cell (by omega) (by have : kN = 5000 := rfl; omega) (fun c hc => by
              obtain ⟨-, -, c3, -, -⟩ := cell_v t5 hc
              rw [jv_0]
              exact c3) (frm_refl _ _)
            rw [show nI 0 = (0 : Int32) from nI_0] at e1 e3
            rw [e1, e3, Option.bind_some, mX3_rowCount, Option.bind_some]
            refine ⟨nI (max rt (s + ru)), x1, x2, nI (max rt (s + ru)), upd m_rows t (nI (max rt (s + ru))), m', rfl, ?_, ⟨max rt (s + ru), by omega, by omega, rfl, pk_us, fun c hc => ⟨jv s tc uc (3 * ru) c, ?_, (e2 c hc).1, e4 c hc, (e2 c hc).2, fun q => ?_⟩⟩, e5, fun w hw => pk_un hw⟩
            · rw [pk_us]
            · rw [jv]
              by_cases q : 3 * s ≤ c ∧ c < 3 * s + 3 * ru ∧ cv tc c = 0
              · rw [if_pos q]; exact (cell_v u5 (by omega)).1
              · rw [if_neg q]; exact (cell_v t5 hc).1
            · rw [jv, if_neg (by omega)]
              exact (cell_v t5 hc).2.2.2.2 (by omega)
          · exact absurd (a k (by omega) hk) hkn
        · rcases fM with ⟨a', b'⟩ | ⟨-, b'⟩
          · exact absurd (a' k (by omega) hk) hkn
          · rw [b, b', Option.bind_some, if_pos (show (0 : Int32) = 0 from rfl)]
            exact ⟨_, _, _, _, _, _, rfl, rfl, hT', frm_refl _ _, fun _ _ => rfl⟩
      · have h4' : ¬ nI (s + ru) ≤ (8 : Int32) := fun q => h4 ((nI_leI (b := 8) (by omega) (by decide)).mp q)
        rw [if_neg h4', if_neg h4']
        exact ⟨_, _, _, _, _, _, rfl, rfl, hT', frm_refl _ _, fun _ _ => rfl⟩
    · have h3' : ¬ nI s ≤ nI rt := fun q => h3 ((nI_leI (by omega) (by omega)).mp q)
      rw [if_neg h3', if_neg h3']
      exact ⟨_, _, _, _, _, _, rfl, rfl, hT', frm_refl _ _, fun _ _ => rfl⟩
theorem op_join_o1 {x : Int32} (hx : x < 0 ∨ nI 4 ≤ x) (m_rows m_cell : Nat → Int32) (y p3 : Int32) : mX7_join m_rows m_cell x y p3 = some (-1, m_rows, m_cell) := by
  rw [mX7_join, q_isTo hx]; rfl
theorem op_join_o2 {t : Nat} (ht : t < 4) {y : Int32} (hy : y < 0 ∨ nI 4 ≤ y) (m_rows m_cell : Nat → Int32) (p3 : Int32) : mX7_join m_rows m_cell (nI t) y p3 = some (-1, m_rows, m_cell) := by
  rw [mX7_join, q_isT ht, q_isTo hy]; rfl
theorem op_join_e {t : Nat} (ht : t < 4) (m_rows m_cell : Nat → Int32) (p3 : Int32) : mX7_join m_rows m_cell (nI t) (nI t) p3 = some (-1, m_rows, m_cell) := by
  rw [mX7_join, q_isT ht, Option.bind_some, if_neg h10, Option.bind_some, if_neg h10, if_pos rfl]
