/-! LEAVES (mine; rows laid by the walker): small predicates, the tape -/
def bi (b : Bool) : Int32 := if b then 1 else 0
theorem bi_t {p : Prop} [Decidable p] (h : p) : bi (decide p) = 1 := by simp [bi, h]
theorem bi_f {p : Prop} [Decidable p] (h : ¬ p) : bi (decide p) = 0 := by simp [bi, h]
theorem i32lt (x y : Int32) : (x < y) = (x.toInt < y.toInt) := propext Int32.lt_iff_toInt_lt
theorem i32le (x y : Int32) : (x ≤ y) = (x.toInt ≤ y.toInt) := propext Int32.le_iff_toInt_le
theorem i32eq (x y : Int32) : (x = y) = (x.toInt = y.toInt) := propext Int32.toInt_inj.symm
theorem t_Sg_isDigit (G : am_G) {d nx : Nat} {M : am_M} {x : Int32} : am_Tr G m_Sg_isDigit d 0 0 [.int x] M nx (fun r M1 nx1 => r = .inl (some (.int (bi (decide (48 ≤ x.toInt ∧ x.toInt ≤ 57))))) ∧ M1 = M ∧ nx1 = nx) := by
  refine am_TrOf (by decide) (Nat.le_of_ble_eq_true rfl) ?_
  show am_V G _ _ _ _ _ 0 [(0, .int x)] [] M nx 0 0
  refine v_iload_n (am_Dk d_Sg_isDigit (k := 0) rfl) rfl ?_
  refine v_bipush (v := 48) (am_Dk d_Sg_isDigit (k := 1) rfl) (by decide) ?_
  refine v_icmp_lt (tgt := 16) (am_Dk d_Sg_isDigit (k := 2) rfl) (by decide) (fun c1 => ?_) (fun c1 => ?_)
  · refine v_iconst (v := 0) (am_Dk d_Sg_isDigit (k := 8) rfl) (by decide) ?_
    exact v_ireturn (am_Dk d_Sg_isDigit (k := 9) rfl) rfl rfl (by omega) (by omega) ⟨by rw [bi_f (p := 48 ≤ x.toInt ∧ x.toInt ≤ 57) (by simp [i32lt, i32le, i32eq] at *; omega)], rfl, rfl⟩
  · refine v_iload_n (am_Dk d_Sg_isDigit (k := 3) rfl) rfl ?_
    refine v_bipush (v := 57) (am_Dk d_Sg_isDigit (k := 4) rfl) (by decide) ?_
    refine v_icmp_gt (tgt := 16) (am_Dk d_Sg_isDigit (k := 5) rfl) (by decide) (fun c2 => ?_) (fun c2 => ?_)
    · refine v_iconst (v := 0) (am_Dk d_Sg_isDigit (k := 8) rfl) (by decide) ?_
      exact v_ireturn (am_Dk d_Sg_isDigit (k := 9) rfl) rfl rfl (by omega) (by omega) ⟨by rw [bi_f (p := 48 ≤ x.toInt ∧ x.toInt ≤ 57) (by simp [i32lt, i32le, i32eq] at *; omega)], rfl, rfl⟩
    · refine v_iconst (v := 1) (am_Dk d_Sg_isDigit (k := 6) rfl) (by decide) ?_
      refine v_goto (tgt := 17) (am_Dk d_Sg_isDigit (k := 7) rfl) (by decide) ?_
      exact v_ireturn (am_Dk d_Sg_isDigit (k := 9) rfl) rfl rfl (by omega) (by omega) ⟨by rw [bi_t (p := 48 ≤ x.toInt ∧ x.toInt ≤ 57) (by simp [i32lt, i32le, i32eq] at *; omega)], rfl, rfl⟩
theorem t_Sg_isSmall (G : am_G) {d nx : Nat} {M : am_M} {x : Int32} : am_Tr G m_Sg_isSmall d 0 0 [.int x] M nx (fun r M1 nx1 => r = .inl (some (.int (bi (decide (97 ≤ x.toInt ∧ x.toInt ≤ 122))))) ∧ M1 = M ∧ nx1 = nx) := by
  refine am_TrOf (by decide) (Nat.le_of_ble_eq_true rfl) ?_
  show am_V G _ _ _ _ _ 0 [(0, .int x)] [] M nx 0 0
  refine v_iload_n (am_Dk d_Sg_isSmall (k := 0) rfl) rfl ?_
  refine v_bipush (v := 97) (am_Dk d_Sg_isSmall (k := 1) rfl) (by decide) ?_
  refine v_icmp_lt (tgt := 16) (am_Dk d_Sg_isSmall (k := 2) rfl) (by decide) (fun c1 => ?_) (fun c1 => ?_)
  · refine v_iconst (v := 0) (am_Dk d_Sg_isSmall (k := 8) rfl) (by decide) ?_
    exact v_ireturn (am_Dk d_Sg_isSmall (k := 9) rfl) rfl rfl (by omega) (by omega) ⟨by rw [bi_f (p := 97 ≤ x.toInt ∧ x.toInt ≤ 122) (by simp [i32lt, i32le, i32eq] at *; omega)], rfl, rfl⟩
  · refine v_iload_n (am_Dk d_Sg_isSmall (k := 3) rfl) rfl ?_
    refine v_bipush (v := 122) (am_Dk d_Sg_isSmall (k := 4) rfl) (by decide) ?_
    refine v_icmp_gt (tgt := 16) (am_Dk d_Sg_isSmall (k := 5) rfl) (by decide) (fun c2 => ?_) (fun c2 => ?_)
    · refine v_iconst (v := 0) (am_Dk d_Sg_isSmall (k := 8) rfl) (by decide) ?_
      exact v_ireturn (am_Dk d_Sg_isSmall (k := 9) rfl) rfl rfl (by omega) (by omega) ⟨by rw [bi_f (p := 97 ≤ x.toInt ∧ x.toInt ≤ 122) (by simp [i32lt, i32le, i32eq] at *; omega)], rfl, rfl⟩
    · refine v_iconst (v := 1) (am_Dk d_Sg_isSmall (k := 6) rfl) (by decide) ?_
      refine v_goto (tgt := 17) (am_Dk d_Sg_isSmall (k := 7) rfl) (by decide) ?_
      exact v_ireturn (am_Dk d_Sg_isSmall (k := 9) rfl) rfl rfl (by omega) (by omega) ⟨by rw [bi_t (p := 97 ≤ x.toInt ∧ x.toInt ≤ 122) (by simp [i32lt, i32le, i32eq] at *; omega)], rfl, rfl⟩
theorem t_Sg_isCapital (G : am_G) {d nx : Nat} {M : am_M} {x : Int32} : am_Tr G m_Sg_isCapital d 0 0 [.int x] M nx (fun r M1 nx1 => r = .inl (some (.int (bi (decide ((65 ≤ x.toInt ∧ x.toInt ≤ 90) ∨ x.toInt = 95))))) ∧ M1 = M ∧ nx1 = nx) := by
  refine am_TrOf (by decide) (Nat.le_of_ble_eq_true rfl) ?_
  show am_V G _ _ _ _ _ 0 [(0, .int x)] [] M nx 0 0
  refine v_iload_n (am_Dk d_Sg_isCapital (k := 0) rfl) rfl ?_
  refine v_bipush (v := 65) (am_Dk d_Sg_isCapital (k := 1) rfl) (by decide) ?_
  refine v_icmp_lt (tgt := 12) (am_Dk d_Sg_isCapital (k := 2) rfl) (by decide) (fun c1 => ?_) (fun c1 => ?_)
  · refine v_iload_n (am_Dk d_Sg_isCapital (k := 6) rfl) rfl ?_
    refine v_bipush (v := 95) (am_Dk d_Sg_isCapital (k := 7) rfl) (by decide) ?_
    refine v_icmp_ne (tgt := 22) (am_Dk d_Sg_isCapital (k := 8) rfl) (by decide) (fun c2 => ?_) (fun c2 => ?_)
    · refine v_iconst (v := 0) (am_Dk d_Sg_isCapital (k := 11) rfl) (by decide) ?_
      exact v_ireturn (am_Dk d_Sg_isCapital (k := 12) rfl) rfl rfl (by omega) (by omega) ⟨by rw [bi_f (p := (65 ≤ x.toInt ∧ x.toInt ≤ 90) ∨ x.toInt = 95) (by simp [i32lt, i32le, i32eq] at *; omega)], rfl, rfl⟩
    · refine v_iconst (v := 1) (am_Dk d_Sg_isCapital (k := 9) rfl) (by decide) ?_
      refine v_goto (tgt := 23) (am_Dk d_Sg_isCapital (k := 10) rfl) (by decide) ?_
      exact v_ireturn (am_Dk d_Sg_isCapital (k := 12) rfl) rfl rfl (by omega) (by omega) ⟨by rw [bi_t (p := (65 ≤ x.toInt ∧ x.toInt ≤ 90) ∨ x.toInt = 95) (by simp [i32lt, i32le, i32eq] at *; omega)], rfl, rfl⟩
  · refine v_iload_n (am_Dk d_Sg_isCapital (k := 3) rfl) rfl ?_
    refine v_bipush (v := 90) (am_Dk d_Sg_isCapital (k := 4) rfl) (by decide) ?_
    refine v_icmp_le (tgt := 18) (am_Dk d_Sg_isCapital (k := 5) rfl) (by decide) (fun c3 => ?_) (fun c3 => ?_)
    · refine v_iconst (v := 1) (am_Dk d_Sg_isCapital (k := 9) rfl) (by decide) ?_
      refine v_goto (tgt := 23) (am_Dk d_Sg_isCapital (k := 10) rfl) (by decide) ?_
      exact v_ireturn (am_Dk d_Sg_isCapital (k := 12) rfl) rfl rfl (by omega) (by omega) ⟨by rw [bi_t (p := (65 ≤ x.toInt ∧ x.toInt ≤ 90) ∨ x.toInt = 95) (by simp [i32lt, i32le, i32eq] at *; omega)], rfl, rfl⟩
    · refine v_iload_n (am_Dk d_Sg_isCapital (k := 6) rfl) rfl ?_
      refine v_bipush (v := 95) (am_Dk d_Sg_isCapital (k := 7) rfl) (by decide) ?_
      refine v_icmp_ne (tgt := 22) (am_Dk d_Sg_isCapital (k := 8) rfl) (by decide) (fun c4 => ?_) (fun c4 => ?_)
      · refine v_iconst (v := 0) (am_Dk d_Sg_isCapital (k := 11) rfl) (by decide) ?_
        exact v_ireturn (am_Dk d_Sg_isCapital (k := 12) rfl) rfl rfl (by omega) (by omega) ⟨by rw [bi_f (p := (65 ≤ x.toInt ∧ x.toInt ≤ 90) ∨ x.toInt = 95) (by simp [i32lt, i32le, i32eq] at *; omega)], rfl, rfl⟩
      · refine v_iconst (v := 1) (am_Dk d_Sg_isCapital (k := 9) rfl) (by decide) ?_
        refine v_goto (tgt := 23) (am_Dk d_Sg_isCapital (k := 10) rfl) (by decide) ?_
        exact v_ireturn (am_Dk d_Sg_isCapital (k := 12) rfl) rfl rfl (by omega) (by omega) ⟨by rw [bi_t (p := (65 ≤ x.toInt ∧ x.toInt ≤ 90) ∨ x.toInt = 95) (by simp [i32lt, i32le, i32eq] at *; omega)], rfl, rfl⟩
theorem t_Sg_isBlank (G : am_G) {d nx : Nat} {M : am_M} {x : Int32} : am_Tr G m_Sg_isBlank d 0 0 [.int x] M nx (fun r M1 nx1 => r = .inl (some (.int (bi (decide (x.toInt = 9 ∨ x.toInt = 10 ∨ x.toInt = 13 ∨ x.toInt = 32))))) ∧ M1 = M ∧ nx1 = nx) := by
  refine am_TrOf (by decide) (Nat.le_of_ble_eq_true rfl) ?_
  show am_V G _ _ _ _ _ 0 [(0, .int x)] [] M nx 0 0
  refine v_iload_n (am_Dk d_Sg_isBlank (k := 0) rfl) rfl ?_
  refine v_bipush (v := 9) (am_Dk d_Sg_isBlank (k := 1) rfl) (by decide) ?_
  refine v_icmp_eq (tgt := 24) (am_Dk d_Sg_isBlank (k := 2) rfl) (by decide) (fun c1 => ?_) (fun c1 => ?_)
  · refine v_iconst (v := 1) (am_Dk d_Sg_isBlank (k := 12) rfl) (by decide) ?_
    refine v_goto (tgt := 29) (am_Dk d_Sg_isBlank (k := 13) rfl) (by decide) ?_
    exact v_ireturn (am_Dk d_Sg_isBlank (k := 15) rfl) rfl rfl (by omega) (by omega) ⟨by rw [bi_t (p := x.toInt = 9 ∨ x.toInt = 10 ∨ x.toInt = 13 ∨ x.toInt = 32) (by simp [i32lt, i32le, i32eq] at *; omega)], rfl, rfl⟩
  · refine v_iload_n (am_Dk d_Sg_isBlank (k := 3) rfl) rfl ?_
    refine v_bipush (v := 10) (am_Dk d_Sg_isBlank (k := 4) rfl) (by decide) ?_
    refine v_icmp_eq (tgt := 24) (am_Dk d_Sg_isBlank (k := 5) rfl) (by decide) (fun c2 => ?_) (fun c2 => ?_)
    · refine v_iconst (v := 1) (am_Dk d_Sg_isBlank (k := 12) rfl) (by decide) ?_
      refine v_goto (tgt := 29) (am_Dk d_Sg_isBlank (k := 13) rfl) (by decide) ?_
      exact v_ireturn (am_Dk d_Sg_isBlank (k := 15) rfl) rfl rfl (by omega) (by omega) ⟨by rw [bi_t (p := x.toInt = 9 ∨ x.toInt = 10 ∨ x.toInt = 13 ∨ x.toInt = 32) (by simp [i32lt, i32le, i32eq] at *; omega)], rfl, rfl⟩
    · refine v_iload_n (am_Dk d_Sg_isBlank (k := 6) rfl) rfl ?_
      refine v_bipush (v := 13) (am_Dk d_Sg_isBlank (k := 7) rfl) (by decide) ?_
      refine v_icmp_eq (tgt := 24) (am_Dk d_Sg_isBlank (k := 8) rfl) (by decide) (fun c3 => ?_) (fun c3 => ?_)
      · refine v_iconst (v := 1) (am_Dk d_Sg_isBlank (k := 12) rfl) (by decide) ?_
        refine v_goto (tgt := 29) (am_Dk d_Sg_isBlank (k := 13) rfl) (by decide) ?_
        exact v_ireturn (am_Dk d_Sg_isBlank (k := 15) rfl) rfl rfl (by omega) (by omega) ⟨by rw [bi_t (p := x.toInt = 9 ∨ x.toInt = 10 ∨ x.toInt = 13 ∨ x.toInt = 32) (by simp [i32lt, i32le, i32eq] at *; omega)], rfl, rfl⟩
      · refine v_iload_n (am_Dk d_Sg_isBlank (k := 9) rfl) rfl ?_
        refine v_bipush (v := 32) (am_Dk d_Sg_isBlank (k := 10) rfl) (by decide) ?_
        refine v_icmp_ne (tgt := 28) (am_Dk d_Sg_isBlank (k := 11) rfl) (by decide) (fun c4 => ?_) (fun c4 => ?_)
        · refine v_iconst (v := 0) (am_Dk d_Sg_isBlank (k := 14) rfl) (by decide) ?_
          exact v_ireturn (am_Dk d_Sg_isBlank (k := 15) rfl) rfl rfl (by omega) (by omega) ⟨by rw [bi_f (p := x.toInt = 9 ∨ x.toInt = 10 ∨ x.toInt = 13 ∨ x.toInt = 32) (by simp [i32lt, i32le, i32eq] at *; omega)], rfl, rfl⟩
        · refine v_iconst (v := 1) (am_Dk d_Sg_isBlank (k := 12) rfl) (by decide) ?_
          refine v_goto (tgt := 29) (am_Dk d_Sg_isBlank (k := 13) rfl) (by decide) ?_
          exact v_ireturn (am_Dk d_Sg_isBlank (k := 15) rfl) rfl rfl (by omega) (by omega) ⟨by rw [bi_t (p := x.toInt = 9 ∨ x.toInt = 10 ∨ x.toInt = 13 ∨ x.toInt = 32) (by simp [i32lt, i32le, i32eq] at *; omega)], rfl, rfl⟩
theorem t_MR_digit (G : am_G) {d nx : Nat} {M : am_M} {x : Int32} : am_Tr G m_MR_digit d 0 0 [.int x] M nx (fun r M1 nx1 => r = .inl (some (.int (bi (decide (48 ≤ x.toInt ∧ x.toInt ≤ 57))))) ∧ M1 = M ∧ nx1 = nx) := by
  refine am_TrOf (by decide) (Nat.le_of_ble_eq_true rfl) ?_
  show am_V G _ _ _ _ _ 0 [(0, .int x)] [] M nx 0 0
  refine v_iload_n (am_Dk d_MR_digit (k := 0) rfl) rfl ?_
  refine v_bipush (v := 48) (am_Dk d_MR_digit (k := 1) rfl) (by decide) ?_
  refine v_icmp_lt (tgt := 16) (am_Dk d_MR_digit (k := 2) rfl) (by decide) (fun c1 => ?_) (fun c1 => ?_)
  · refine v_iconst (v := 0) (am_Dk d_MR_digit (k := 8) rfl) (by decide) ?_
    exact v_ireturn (am_Dk d_MR_digit (k := 9) rfl) rfl rfl (by omega) (by omega) ⟨by rw [bi_f (p := 48 ≤ x.toInt ∧ x.toInt ≤ 57) (by simp [i32lt, i32le, i32eq] at *; omega)], rfl, rfl⟩
  · refine v_iload_n (am_Dk d_MR_digit (k := 3) rfl) rfl ?_
    refine v_bipush (v := 57) (am_Dk d_MR_digit (k := 4) rfl) (by decide) ?_
    refine v_icmp_gt (tgt := 16) (am_Dk d_MR_digit (k := 5) rfl) (by decide) (fun c2 => ?_) (fun c2 => ?_)
    · refine v_iconst (v := 0) (am_Dk d_MR_digit (k := 8) rfl) (by decide) ?_
      exact v_ireturn (am_Dk d_MR_digit (k := 9) rfl) rfl rfl (by omega) (by omega) ⟨by rw [bi_f (p := 48 ≤ x.toInt ∧ x.toInt ≤ 57) (by simp [i32lt, i32le, i32eq] at *; omega)], rfl, rfl⟩
    · refine v_iconst (v := 1) (am_Dk d_MR_digit (k := 6) rfl) (by decide) ?_
      refine v_goto (tgt := 17) (am_Dk d_MR_digit (k := 7) rfl) (by decide) ?_
      exact v_ireturn (am_Dk d_MR_digit (k := 9) rfl) rfl rfl (by omega) (by omega) ⟨by rw [bi_t (p := 48 ≤ x.toInt ∧ x.toInt ≤ 57) (by simp [i32lt, i32le, i32eq] at *; omega)], rfl, rfl⟩
theorem t_MR_small (G : am_G) {d nx : Nat} {M : am_M} {x : Int32} : am_Tr G m_MR_small d 0 0 [.int x] M nx (fun r M1 nx1 => r = .inl (some (.int (bi (decide (97 ≤ x.toInt ∧ x.toInt ≤ 122))))) ∧ M1 = M ∧ nx1 = nx) := by
  refine am_TrOf (by decide) (Nat.le_of_ble_eq_true rfl) ?_
  show am_V G _ _ _ _ _ 0 [(0, .int x)] [] M nx 0 0
  refine v_iload_n (am_Dk d_MR_small (k := 0) rfl) rfl ?_
  refine v_bipush (v := 97) (am_Dk d_MR_small (k := 1) rfl) (by decide) ?_
  refine v_icmp_lt (tgt := 16) (am_Dk d_MR_small (k := 2) rfl) (by decide) (fun c1 => ?_) (fun c1 => ?_)
  · refine v_iconst (v := 0) (am_Dk d_MR_small (k := 8) rfl) (by decide) ?_
    exact v_ireturn (am_Dk d_MR_small (k := 9) rfl) rfl rfl (by omega) (by omega) ⟨by rw [bi_f (p := 97 ≤ x.toInt ∧ x.toInt ≤ 122) (by simp [i32lt, i32le, i32eq] at *; omega)], rfl, rfl⟩
  · refine v_iload_n (am_Dk d_MR_small (k := 3) rfl) rfl ?_
    refine v_bipush (v := 122) (am_Dk d_MR_small (k := 4) rfl) (by decide) ?_
    refine v_icmp_gt (tgt := 16) (am_Dk d_MR_small (k := 5) rfl) (by decide) (fun c2 => ?_) (fun c2 => ?_)
    · refine v_iconst (v := 0) (am_Dk d_MR_small (k := 8) rfl) (by decide) ?_
      exact v_ireturn (am_Dk d_MR_small (k := 9) rfl) rfl rfl (by omega) (by omega) ⟨by rw [bi_f (p := 97 ≤ x.toInt ∧ x.toInt ≤ 122) (by simp [i32lt, i32le, i32eq] at *; omega)], rfl, rfl⟩
    · refine v_iconst (v := 1) (am_Dk d_MR_small (k := 6) rfl) (by decide) ?_
      refine v_goto (tgt := 17) (am_Dk d_MR_small (k := 7) rfl) (by decide) ?_
      exact v_ireturn (am_Dk d_MR_small (k := 9) rfl) rfl rfl (by omega) (by omega) ⟨by rw [bi_t (p := 97 ≤ x.toInt ∧ x.toInt ≤ 122) (by simp [i32lt, i32le, i32eq] at *; omega)], rfl, rfl⟩
theorem t_MR_great (G : am_G) {d nx : Nat} {M : am_M} {x : Int32} : am_Tr G m_MR_great d 0 0 [.int x] M nx (fun r M1 nx1 => r = .inl (some (.int (bi (decide ((65 ≤ x.toInt ∧ x.toInt ≤ 90) ∨ x.toInt = 95))))) ∧ M1 = M ∧ nx1 = nx) := by
  refine am_TrOf (by decide) (Nat.le_of_ble_eq_true rfl) ?_
  show am_V G _ _ _ _ _ 0 [(0, .int x)] [] M nx 0 0
  refine v_iload_n (am_Dk d_MR_great (k := 0) rfl) rfl ?_
  refine v_bipush (v := 65) (am_Dk d_MR_great (k := 1) rfl) (by decide) ?_
  refine v_icmp_lt (tgt := 12) (am_Dk d_MR_great (k := 2) rfl) (by decide) (fun c1 => ?_) (fun c1 => ?_)
  · refine v_iload_n (am_Dk d_MR_great (k := 6) rfl) rfl ?_
    refine v_bipush (v := 95) (am_Dk d_MR_great (k := 7) rfl) (by decide) ?_
    refine v_icmp_ne (tgt := 22) (am_Dk d_MR_great (k := 8) rfl) (by decide) (fun c2 => ?_) (fun c2 => ?_)
    · refine v_iconst (v := 0) (am_Dk d_MR_great (k := 11) rfl) (by decide) ?_
      exact v_ireturn (am_Dk d_MR_great (k := 12) rfl) rfl rfl (by omega) (by omega) ⟨by rw [bi_f (p := (65 ≤ x.toInt ∧ x.toInt ≤ 90) ∨ x.toInt = 95) (by simp [i32lt, i32le, i32eq] at *; omega)], rfl, rfl⟩
    · refine v_iconst (v := 1) (am_Dk d_MR_great (k := 9) rfl) (by decide) ?_
      refine v_goto (tgt := 23) (am_Dk d_MR_great (k := 10) rfl) (by decide) ?_
      exact v_ireturn (am_Dk d_MR_great (k := 12) rfl) rfl rfl (by omega) (by omega) ⟨by rw [bi_t (p := (65 ≤ x.toInt ∧ x.toInt ≤ 90) ∨ x.toInt = 95) (by simp [i32lt, i32le, i32eq] at *; omega)], rfl, rfl⟩
  · refine v_iload_n (am_Dk d_MR_great (k := 3) rfl) rfl ?_
    refine v_bipush (v := 90) (am_Dk d_MR_great (k := 4) rfl) (by decide) ?_
    refine v_icmp_le (tgt := 18) (am_Dk d_MR_great (k := 5) rfl) (by decide) (fun c3 => ?_) (fun c3 => ?_)
    · refine v_iconst (v := 1) (am_Dk d_MR_great (k := 9) rfl) (by decide) ?_
      refine v_goto (tgt := 23) (am_Dk d_MR_great (k := 10) rfl) (by decide) ?_
      exact v_ireturn (am_Dk d_MR_great (k := 12) rfl) rfl rfl (by omega) (by omega) ⟨by rw [bi_t (p := (65 ≤ x.toInt ∧ x.toInt ≤ 90) ∨ x.toInt = 95) (by simp [i32lt, i32le, i32eq] at *; omega)], rfl, rfl⟩
    · refine v_iload_n (am_Dk d_MR_great (k := 6) rfl) rfl ?_
      refine v_bipush (v := 95) (am_Dk d_MR_great (k := 7) rfl) (by decide) ?_
      refine v_icmp_ne (tgt := 22) (am_Dk d_MR_great (k := 8) rfl) (by decide) (fun c4 => ?_) (fun c4 => ?_)
      · refine v_iconst (v := 0) (am_Dk d_MR_great (k := 11) rfl) (by decide) ?_
        exact v_ireturn (am_Dk d_MR_great (k := 12) rfl) rfl rfl (by omega) (by omega) ⟨by rw [bi_f (p := (65 ≤ x.toInt ∧ x.toInt ≤ 90) ∨ x.toInt = 95) (by simp [i32lt, i32le, i32eq] at *; omega)], rfl, rfl⟩
      · refine v_iconst (v := 1) (am_Dk d_MR_great (k := 9) rfl) (by decide) ?_
        refine v_goto (tgt := 23) (am_Dk d_MR_great (k := 10) rfl) (by decide) ?_
        exact v_ireturn (am_Dk d_MR_great (k := 12) rfl) rfl rfl (by omega) (by omega) ⟨by rw [bi_t (p := (65 ≤ x.toInt ∧ x.toInt ≤ 90) ∨ x.toInt = 95) (by simp [i32lt, i32le, i32eq] at *; omega)], rfl, rfl⟩
theorem t_MR_blank (G : am_G) {d nx : Nat} {M : am_M} {x : Int32} : am_Tr G m_MR_blank d 0 0 [.int x] M nx (fun r M1 nx1 => r = .inl (some (.int (bi (decide (x.toInt = 9 ∨ x.toInt = 10 ∨ x.toInt = 13 ∨ x.toInt = 32))))) ∧ M1 = M ∧ nx1 = nx) := by
  refine am_TrOf (by decide) (Nat.le_of_ble_eq_true rfl) ?_
  show am_V G _ _ _ _ _ 0 [(0, .int x)] [] M nx 0 0
  refine v_iload_n (am_Dk d_MR_blank (k := 0) rfl) rfl ?_
  refine v_bipush (v := 9) (am_Dk d_MR_blank (k := 1) rfl) (by decide) ?_
  refine v_icmp_eq (tgt := 24) (am_Dk d_MR_blank (k := 2) rfl) (by decide) (fun c1 => ?_) (fun c1 => ?_)
  · refine v_iconst (v := 1) (am_Dk d_MR_blank (k := 12) rfl) (by decide) ?_
    refine v_goto (tgt := 29) (am_Dk d_MR_blank (k := 13) rfl) (by decide) ?_
    exact v_ireturn (am_Dk d_MR_blank (k := 15) rfl) rfl rfl (by omega) (by omega) ⟨by rw [bi_t (p := x.toInt = 9 ∨ x.toInt = 10 ∨ x.toInt = 13 ∨ x.toInt = 32) (by simp [i32lt, i32le, i32eq] at *; omega)], rfl, rfl⟩
  · refine v_iload_n (am_Dk d_MR_blank (k := 3) rfl) rfl ?_
    refine v_bipush (v := 10) (am_Dk d_MR_blank (k := 4) rfl) (by decide) ?_
    refine v_icmp_eq (tgt := 24) (am_Dk d_MR_blank (k := 5) rfl) (by decide) (fun c2 => ?_) (fun c2 => ?_)
    · refine v_iconst (v := 1) (am_Dk d_MR_blank (k := 12) rfl) (by decide) ?_
      refine v_goto (tgt := 29) (am_Dk d_MR_blank (k := 13) rfl) (by decide) ?_
      exact v_ireturn (am_Dk d_MR_blank (k := 15) rfl) rfl rfl (by omega) (by omega) ⟨by rw [bi_t (p := x.toInt = 9 ∨ x.toInt = 10 ∨ x.toInt = 13 ∨ x.toInt = 32) (by simp [i32lt, i32le, i32eq] at *; omega)], rfl, rfl⟩
    · refine v_iload_n (am_Dk d_MR_blank (k := 6) rfl) rfl ?_
      refine v_bipush (v := 13) (am_Dk d_MR_blank (k := 7) rfl) (by decide) ?_
      refine v_icmp_eq (tgt := 24) (am_Dk d_MR_blank (k := 8) rfl) (by decide) (fun c3 => ?_) (fun c3 => ?_)
      · refine v_iconst (v := 1) (am_Dk d_MR_blank (k := 12) rfl) (by decide) ?_
        refine v_goto (tgt := 29) (am_Dk d_MR_blank (k := 13) rfl) (by decide) ?_
        exact v_ireturn (am_Dk d_MR_blank (k := 15) rfl) rfl rfl (by omega) (by omega) ⟨by rw [bi_t (p := x.toInt = 9 ∨ x.toInt = 10 ∨ x.toInt = 13 ∨ x.toInt = 32) (by simp [i32lt, i32le, i32eq] at *; omega)], rfl, rfl⟩
      · refine v_iload_n (am_Dk d_MR_blank (k := 9) rfl) rfl ?_
        refine v_bipush (v := 32) (am_Dk d_MR_blank (k := 10) rfl) (by decide) ?_
        refine v_icmp_ne (tgt := 28) (am_Dk d_MR_blank (k := 11) rfl) (by decide) (fun c4 => ?_) (fun c4 => ?_)
        · refine v_iconst (v := 0) (am_Dk d_MR_blank (k := 14) rfl) (by decide) ?_
          exact v_ireturn (am_Dk d_MR_blank (k := 15) rfl) rfl rfl (by omega) (by omega) ⟨by rw [bi_f (p := x.toInt = 9 ∨ x.toInt = 10 ∨ x.toInt = 13 ∨ x.toInt = 32) (by simp [i32lt, i32le, i32eq] at *; omega)], rfl, rfl⟩
        · refine v_iconst (v := 1) (am_Dk d_MR_blank (k := 12) rfl) (by decide) ?_
          refine v_goto (tgt := 29) (am_Dk d_MR_blank (k := 13) rfl) (by decide) ?_
          exact v_ireturn (am_Dk d_MR_blank (k := 15) rfl) rfl rfl (by omega) (by omega) ⟨by rw [bi_t (p := x.toInt = 9 ∨ x.toInt = 10 ∨ x.toInt = 13 ∨ x.toInt = 32) (by simp [i32lt, i32le, i32eq] at *; omega)], rfl, rfl⟩
theorem t_jL_canEncode (G : am_G) {d nx : Nat} {M : am_M} {x : Int32} : am_Tr G m_jL_canEncode d 0 0 [.int x] M nx (fun r M1 nx1 => r = .inl (some (.int (bi (decide (0 ≤ x.toInt ∧ x.toInt ≤ 255))))) ∧ M1 = M ∧ nx1 = nx) := by
  refine am_TrOf (by decide) (Nat.le_of_ble_eq_true rfl) ?_
  show am_V G _ _ _ _ _ 0 [(0, .int x)] [] M nx 0 0
  refine v_iload_n (am_Dk d_jL_canEncode (k := 0) rfl) rfl ?_
  refine v_if_lt (tgt := 15) (am_Dk d_jL_canEncode (k := 1) rfl) (by decide) (fun c1 => ?_) (fun c1 => ?_)
  · refine v_iconst (v := 0) (am_Dk d_jL_canEncode (k := 7) rfl) (by decide) ?_
    exact v_ireturn (am_Dk d_jL_canEncode (k := 8) rfl) rfl rfl (by omega) (by omega) ⟨by rw [bi_f (p := 0 ≤ x.toInt ∧ x.toInt ≤ 255) (by simp [i32lt, i32le, i32eq] at *; omega)], rfl, rfl⟩
  · refine v_iload_n (am_Dk d_jL_canEncode (k := 2) rfl) rfl ?_
    refine v_sipush (v := 255) (am_Dk d_jL_canEncode (k := 3) rfl) (by decide) ?_
    refine v_icmp_gt (tgt := 15) (am_Dk d_jL_canEncode (k := 4) rfl) (by decide) (fun c2 => ?_) (fun c2 => ?_)
    · refine v_iconst (v := 0) (am_Dk d_jL_canEncode (k := 7) rfl) (by decide) ?_
      exact v_ireturn (am_Dk d_jL_canEncode (k := 8) rfl) rfl rfl (by omega) (by omega) ⟨by rw [bi_f (p := 0 ≤ x.toInt ∧ x.toInt ≤ 255) (by simp [i32lt, i32le, i32eq] at *; omega)], rfl, rfl⟩
    · refine v_iconst (v := 1) (am_Dk d_jL_canEncode (k := 5) rfl) (by decide) ?_
      refine v_goto (tgt := 16) (am_Dk d_jL_canEncode (k := 6) rfl) (by decide) ?_
      exact v_ireturn (am_Dk d_jL_canEncode (k := 8) rfl) rfl rfl (by omega) (by omega) ⟨by rw [bi_t (p := 0 ≤ x.toInt ∧ x.toInt ≤ 255) (by simp [i32lt, i32le, i32eq] at *; omega)], rfl, rfl⟩
