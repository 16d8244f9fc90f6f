/-! ARITHMETIC: the reference's remainder that is never of the other sign is the class's floorMod (mine) -/
theorem jx_lt (a b : Int64) : (a ^^^ b) < 0 ↔ (a.toInt < 0 ↔ ¬ b.toInt < 0) := by
  rw [Int64.lt_iff_toInt_lt, show (0 : Int64).toInt = 0 from by decide, ← Int64.toInt_toBitVec]
  have h := @BitVec.msb_eq_toInt 64 (a ^^^ b).toBitVec
  rw [Int64.toBitVec_xor, BitVec.msb_xor, BitVec.msb_eq_toInt, BitVec.msb_eq_toInt] at h
  rw [Int64.toBitVec_xor]
  rw [Int64.toInt_toBitVec, Int64.toInt_toBitVec] at h
  generalize (a.toBitVec ^^^ b.toBitVec).toInt = z at h ⊢
  by_cases h1 : a.toInt < 0 <;> by_cases h2 : b.toInt < 0 <;> by_cases h3 : z < 0 <;> simp [h1, h2, h3] at h ⊢
def inR (x : Int64) : Prop := -9007199254740991 ≤ x.toInt ∧ x.toInt ≤ 9007199254740991
theorem bm_id {x : Int} (h1 : -9223372036854775808 ≤ x) (h2 : x < 9223372036854775808) : x.bmod (2 ^ 64) = x := by
  apply Int.bmod_eq_of_le <;> omega
theorem jr_int {a b : Int64} (ha : -9223372036854775807 ≤ a.toInt) (hb : ¬ b = 0) : (a - a / b * b).toInt = a.toInt.tmod b.toInt := by
  have hb' : ¬ b.toInt = 0 := fun z => hb (Int64.toInt_inj.mp (by rw [z]; decide))
  have e1 : (a / b).toInt = a.toInt.tdiv b.toInt := Int64.toInt_div_of_ne_left a b (fun z => by rw [z] at ha; exact absurd ha (by decide))
  have e2 := Int.tmod_def a.toInt b.toInt
  have e3 : (a.toInt.tmod b.toInt).natAbs < b.toInt.natAbs := by rw [Int.natAbs_tmod]; exact Nat.mod_lt _ (by omega)
  have e4 : (a.toInt.tmod b.toInt).natAbs ≤ a.toInt.natAbs := by rw [Int.natAbs_tmod]; exact Nat.mod_le _ _
  have t1 := Int64.toInt_lt a
  have t2 := Int64.toInt_lt b
  have t3 := Int64.le_toInt b
  rw [Int64.toInt_sub, Int64.toInt_mul, e1, Int.sub_bmod_bmod, Int.mul_comm, ← e2]
  exact bm_id (by omega) (by omega)
theorem jmod_eq {a b : Int64} (ha : inR a) (hr : inR b) (hb : ¬ b = 0) : (a - a / b * b + b) - (a - a / b * b + b) / b * b = jfm a b := by
  have hb' : ¬ b.toInt = 0 := fun z => hb (Int64.toInt_inj.mp (by rw [z]; decide))
  obtain ⟨ha1, ha2⟩ := ha
  obtain ⟨hr1, hr2⟩ := hr
  have r0 := jr_int (a := a) (b := b) (by omega) hb
  have e3 : (a.toInt.tmod b.toInt).natAbs < b.toInt.natAbs := by rw [Int.natAbs_tmod]; exact Nat.mod_lt _ (by omega)
  have hs1 : 0 ≤ a.toInt → 0 ≤ a.toInt.tmod b.toInt := fun h => Int.tmod_nonneg _ h
  have hs2 : a.toInt ≤ 0 → a.toInt.tmod b.toInt ≤ 0 := fun h => by
    have := Int.tmod_nonneg (a := -a.toInt) b.toInt (by omega)
    rw [Int.neg_tmod] at this
    omega
  obtain ⟨r, hr⟩ : ∃ r, a - a / b * b = r := ⟨_, rfl⟩
  rw [jfm, hr]
  rw [hr] at r0
  have s0 : (r + b).toInt = r.toInt + b.toInt := by
    rw [Int64.toInt_add]
    exact bm_id (by omega) (by omega)
  apply Int64.toInt_inj.mp
  rw [jr_int (by omega) hb, s0]
  have hz : r = 0 ↔ r.toInt = 0 := ⟨fun z => by rw [z]; decide, fun z => Int64.toInt_inj.mp (by rw [z]; decide)⟩
  split
  · rename_i hc
    obtain ⟨c1, c2⟩ := hc
    rw [jx_lt] at c1
    rw [hz] at c2
    rw [s0]
    by_cases hn : a.toInt < 0
    · have : ¬ b.toInt < 0 := c1.mp hn
      have := hs2 (by omega)
      exact Int.tmod_eq_of_lt (by omega) (by omega)
    · have : b.toInt < 0 := Classical.not_not.mp (fun z => hn (c1.mpr z))
      have := hs1 (by omega)
      have e := Int.tmod_eq_of_lt (a := -(r.toInt + b.toInt)) (b := -b.toInt) (by omega) (by omega)
      rw [Int.neg_tmod, Int.tmod_neg] at e
      omega
  · rename_i hc
    rw [jx_lt, hz] at hc
    by_cases h0 : r.toInt = 0
    · rw [h0, Int.zero_add, Int.tmod_self]
    · have hc : ¬ (a.toInt < 0 ↔ ¬ b.toInt < 0) := fun z => hc ⟨z, h0⟩
      by_cases hn : a.toInt < 0
      · have hb9 : b.toInt < 0 := Classical.not_not.mp (fun z => hc ⟨fun _ => z, fun _ => hn⟩)
        have := hs2 (by omega)
        have e := Int.tmod_eq_of_lt (a := -r.toInt) (b := -b.toInt) (by omega) (by omega)
        have e2 : (-r.toInt + -b.toInt).tmod (-b.toInt) = (-r.toInt).tmod (-b.toInt) := by
          rw [Int.tmod_eq_emod_of_nonneg (by omega), Int.tmod_eq_emod_of_nonneg (by omega), Int.add_emod_right]
        rw [show -r.toInt + -b.toInt = -(r.toInt + b.toInt) from by omega, e, Int.neg_tmod, Int.tmod_neg] at e2
        omega
      · have hb9 : ¬ b.toInt < 0 := fun z => hc ⟨fun y => absurd y hn, fun y => absurd z y⟩
        have := hs1 (by omega)
        have e := Int.tmod_eq_of_lt (a := r.toInt) (b := b.toInt) (by omega) (by omega)
        rw [Int.tmod_eq_emod_of_nonneg (by omega), Int.add_emod_right, ← Int.tmod_eq_emod_of_nonneg (by omega), e]
