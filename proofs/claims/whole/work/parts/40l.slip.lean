/-! SLIPS -/
def rfin (pl written : Int32) : Option Int64 := if 0 ≤ written then Option.bind (mX7_power pl) (fun u7 => some ((Int32.toInt64 written) * u7)) else some (-6)
theorem w01 : ((0 : Int32) = 1) = False := eq_false (by decide)
theorem w10 : ((1 : Int32) = 0) = False := eq_false (by decide)
theorem w00 : ((0 : Int32) = 0) = True := eq_true rfl
theorem w11 : ((1 : Int32) = 1) = True := eq_true rfl
theorem w20 : ((2 : Int32) = 0) = False := eq_false (by decide)
theorem w21 : ((2 : Int32) = 1) = False := eq_false (by decide)
theorem w22 : ((2 : Int32) = 2) = True := eq_true rfl
theorem w30 : ((3 : Int32) = 0) = False := eq_false (by decide)
theorem w31 : ((3 : Int32) = 1) = False := eq_false (by decide)
theorem w32 : ((3 : Int32) = 2) = False := eq_false (by decide)
section RSL
variable {mp mq mX mY : Nat → Int32} {i : Int32}
theorem r_00 (hin : ¬ (i < 0 ∨ 16 ≤ i.toNatClampNeg)) : mX7_slipped mp mq mX mY i 0 0 = if mp i.toNatClampNeg / 60 ≤ 0 then rfin (mq i.toNatClampNeg) (-6) else rfin (mq i.toNatClampNeg) (mp i.toNatClampNeg - mp i.toNatClampNeg / 60 * 60) := by
  rw [mX7_slipped]
  simp only [md_jnP, md_letP, if_neg hin, w00, w01, if_true, if_false, rfin]
theorem r_01 (hin : ¬ (i < 0 ∨ 16 ≤ i.toNatClampNeg)) : mX7_slipped mp mq mX mY i 0 1 = if mp i.toNatClampNeg / 60 ≤ 0 then rfin (mq i.toNatClampNeg) (-6) else if mp i.toNatClampNeg - mp i.toNatClampNeg / 60 * 60 ≤ 0 then rfin (mq i.toNatClampNeg) (-6) else rfin (mq i.toNatClampNeg) (mp i.toNatClampNeg / 60) := by
  rw [mX7_slipped]
  simp only [md_jnP, md_letP, if_neg hin, w00, w10, w11, if_true, if_false, rfin]
theorem r_10 (hin : ¬ (i < 0 ∨ 16 ≤ i.toNatClampNeg)) : mX7_slipped mp mq mX mY i 1 0 = if mq i.toNatClampNeg ≤ 0 then some (-6) else Option.bind (mX7_power (mq i.toNatClampNeg - 1)) (fun u26 => some (Int32.toInt64 (mp i.toNatClampNeg) * u26)) := by
  rw [mX7_slipped]
  simp only [md_jnP, md_letP, if_neg hin, w00, w10, w11, if_true, if_false]
theorem r_11 (hin : ¬ (i < 0 ∨ 16 ≤ i.toNatClampNeg)) : mX7_slipped mp mq mX mY i 1 1 = some (-6) := by
  rw [mX7_slipped]
  simp only [md_jnP, md_letP, if_neg hin, w10, w11, if_true, if_false]
theorem r_20 (hin : ¬ (i < 0 ∨ 16 ≤ i.toNatClampNeg)) : mX7_slipped mp mq mX mY i 2 0 = Option.bind (mX7_in (Int32.toInt64 (mY i.toNatClampNeg - 1)) 1 59) (fun u15 => if u15 = 0 then rfin (mq i.toNatClampNeg) (-6) else rfin (mq i.toNatClampNeg) (mX i.toNatClampNeg * (mY i.toNatClampNeg - 1))) := by
  rw [mX7_slipped]
  simp only [md_jnP, md_letP, if_neg hin, w00, w20, w21, w22, if_true, if_false, rfin]
theorem r_21 (hin : ¬ (i < 0 ∨ 16 ≤ i.toNatClampNeg)) : mX7_slipped mp mq mX mY i 2 1 = Option.bind (mX7_in (Int32.toInt64 (mY i.toNatClampNeg + 1)) 1 59) (fun u15 => if u15 = 0 then rfin (mq i.toNatClampNeg) (-6) else rfin (mq i.toNatClampNeg) (mX i.toNatClampNeg * (mY i.toNatClampNeg + 1))) := by
  rw [mX7_slipped]
  simp only [md_jnP, md_letP, if_neg hin, w10, w20, w21, w22, if_true, if_false, rfin]
theorem r_30 (hin : ¬ (i < 0 ∨ 16 ≤ i.toNatClampNeg)) : mX7_slipped mp mq mX mY i 3 0 = if mp i.toNatClampNeg / 60 ≤ 0 then rfin (mq i.toNatClampNeg) (-6) else rfin (mq i.toNatClampNeg) (3660 * (mp i.toNatClampNeg / 60) + (mp i.toNatClampNeg - mp i.toNatClampNeg / 60 * 60)) := by
  rw [mX7_slipped]
  simp only [md_jnP, md_letP, if_neg hin, w00, w01, w30, w31, w32, if_true, if_false, rfin]
theorem r_31 (hin : ¬ (i < 0 ∨ 16 ≤ i.toNatClampNeg)) : mX7_slipped mp mq mX mY i 3 1 = if mp i.toNatClampNeg - mp i.toNatClampNeg / 60 * 60 ≤ 0 then rfin (mq i.toNatClampNeg) (-6) else rfin (mq i.toNatClampNeg) (3600 * (mp i.toNatClampNeg / 60) + 61 * (mp i.toNatClampNeg - mp i.toNatClampNeg / 60 * 60)) := by
  rw [mX7_slipped]
  simp only [md_jnP, md_letP, if_neg hin, w10, w11, w30, w31, w32, if_true, if_false, rfin]
end RSL
