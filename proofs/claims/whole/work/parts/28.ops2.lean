/-! WHAT AN OPERAND DOES (mine; rows laid by the walker) -/
def fitP (r : Int64) : Bool := decide (r ≤ 9007199254740991 ∧ -9007199254740991 ≤ r)
def setE (r : Int64) : Int32 := if fitP r = true then 0 else 4
def setN (r : Int64) : Int64 := if fitP r = true then r else 0
set_option maxRecDepth 20000 in
theorem t_Op_fail (G : am_G) {d nx : Nat} (hd : 0 ≤ d) {M : am_M} {x : Nat} {e a b : Int32} {v : Int64} (hx : M x = some (.inr (8, [.int e, .long v, .int a, .int b]))) {c : Int32} : am_Tr G m_Op_fail d 0 0 [.ref x, .int c] M nx (fun r M1 nx1 => r = .inl none ∧ M1 = am_up M x (.inr (8, [.int c, .long 0, .int 0, .int 0])) ∧ nx1 = nx) := by
  refine am_TrOf (by decide) (Nat.le_of_ble_eq_true rfl) ?_
  show am_V G _ _ _ _ _ 0 [(0, .ref x), (1, .int c)] [] M nx 0 0
  refine v_aload_n (am_Dk d_Op_fail (k := 0) rfl) rfl ?_
  refine v_iload_n (am_Dk d_Op_fail (k := 1) rfl) rfl ?_
  refine v_put (am_Dk d_Op_fail (k := 2) rfl) f_Op_18 hx (Nat.le_of_ble_eq_true rfl) rfl rfl ?_
  refine v_aload_n (am_Dk d_Op_fail (k := 3) rfl) rfl ?_
  refine v_lconst (v := 0) (am_Dk d_Op_fail (k := 4) rfl) (by decide) ?_
  have m1 : (am_up M x (.inr (8, [.int c, .long v, .int a, .int b]))) x = some (.inr (8, [.int c, .long v, .int a, .int b])) := am_up_eq _ _ _
  refine v_put (am_Dk d_Op_fail (k := 5) rfl) f_Op_21 m1 (Nat.le_of_ble_eq_true rfl) rfl rfl ?_
  rw [am_uu0 (a := x)]
  refine v_aload_n (am_Dk d_Op_fail (k := 6) rfl) rfl ?_
  refine v_iconst (v := 0) (am_Dk d_Op_fail (k := 7) rfl) (by decide) ?_
  have m2 : (am_up M x (.inr (8, [.int c, .long 0, .int a, .int b]))) x = some (.inr (8, [.int c, .long 0, .int a, .int b])) := am_up_eq _ _ _
  refine v_put (am_Dk d_Op_fail (k := 8) rfl) f_Op_9 m2 (Nat.le_of_ble_eq_true rfl) rfl rfl ?_
  rw [am_uu0 (a := x)]
  refine v_aload_n (am_Dk d_Op_fail (k := 9) rfl) rfl ?_
  refine v_iconst (v := 0) (am_Dk d_Op_fail (k := 10) rfl) (by decide) ?_
  have m3 : (am_up M x (.inr (8, [.int c, .long 0, .int 0, .int b]))) x = some (.inr (8, [.int c, .long 0, .int 0, .int b])) := am_up_eq _ _ _
  refine v_put (am_Dk d_Op_fail (k := 11) rfl) f_Op_15 m3 (Nat.le_of_ble_eq_true rfl) rfl rfl ?_
  rw [am_uu0 (a := x)]
  exact v_return (am_Dk d_Op_fail (k := 12) rfl) rfl (by omega) (by omega) ⟨rfl, rfl, rfl⟩
set_option maxRecDepth 20000 in
theorem t_Op_nameVariable (G : am_G) {d nx : Nat} (hd : 0 ≤ d) {M : am_M} {x : Nat} {e a b : Int32} {v : Int64} (hx : M x = some (.inr (8, [.int e, .long v, .int a, .int b]))) {c d9 : Int32} : am_Tr G m_Op_nameVariable d 0 0 [.ref x, .int c, .int d9] M nx (fun r M1 nx1 => r = .inl none ∧ M1 = am_up M x (.inr (8, [.int e, .long v, .int c, .int d9])) ∧ nx1 = nx) := by
  refine am_TrOf (by decide) (Nat.le_of_ble_eq_true rfl) ?_
  show am_V G _ _ _ _ _ 0 [(0, .ref x), (1, .int c), (2, .int d9)] [] M nx 0 0
  refine v_aload_n (am_Dk d_Op_nameVariable (k := 0) rfl) rfl ?_
  refine v_iload_n (am_Dk d_Op_nameVariable (k := 1) rfl) rfl ?_
  refine v_put (am_Dk d_Op_nameVariable (k := 2) rfl) f_Op_9 hx (Nat.le_of_ble_eq_true rfl) rfl rfl ?_
  refine v_aload_n (am_Dk d_Op_nameVariable (k := 3) rfl) rfl ?_
  refine v_iload_n (am_Dk d_Op_nameVariable (k := 4) rfl) rfl ?_
  have m1 : (am_up M x (.inr (8, [.int e, .long v, .int c, .int b]))) x = some (.inr (8, [.int e, .long v, .int c, .int b])) := am_up_eq _ _ _
  refine v_put (am_Dk d_Op_nameVariable (k := 5) rfl) f_Op_15 m1 (Nat.le_of_ble_eq_true rfl) rfl rfl ?_
  rw [am_uu0 (a := x)]
  exact v_return (am_Dk d_Op_nameVariable (k := 6) rfl) rfl (by omega) (by omega) ⟨rfl, rfl, rfl⟩
set_option maxRecDepth 20000 in
theorem t_Op_isNamedVariable (G : am_G) {d nx : Nat} (hd : 0 ≤ d) {M : am_M} {x : Nat} {e a b : Int32} {v : Int64} (hx : M x = some (.inr (8, [.int e, .long v, .int a, .int b]))) : am_Tr G m_Op_isNamedVariable d 0 0 [.ref x] M nx (fun r M1 nx1 => r = .inl (some (.int (bi (decide (a < b))))) ∧ M1 = M ∧ nx1 = nx) := by
  refine am_TrOf (by decide) (Nat.le_of_ble_eq_true rfl) ?_
  show am_V G _ _ _ _ _ 0 [(0, .ref x)] [] M nx 0 0
  refine v_aload_n (am_Dk d_Op_isNamedVariable (k := 0) rfl) rfl ?_
  refine v_get (am_Dk d_Op_isNamedVariable (k := 1) rfl) f_Op_9 hx rfl ?_
  refine v_aload_n (am_Dk d_Op_isNamedVariable (k := 2) rfl) rfl ?_
  refine v_get (am_Dk d_Op_isNamedVariable (k := 3) rfl) f_Op_15 hx rfl ?_
  refine v_icmp_ge (tgt := 15) (am_Dk d_Op_isNamedVariable (k := 4) rfl) (by decide) (fun c1 => ?_) (fun c1 => ?_)
  · refine v_iconst (v := 0) (am_Dk d_Op_isNamedVariable (k := 7) rfl) (by decide) ?_
    exact v_ireturn (am_Dk d_Op_isNamedVariable (k := 8) rfl) rfl rfl (by omega) (by omega) ⟨by rw [decide_eq_false (Int32.not_lt.mpr (by assumption))]; rfl, rfl, rfl⟩
  · refine v_iconst (v := 1) (am_Dk d_Op_isNamedVariable (k := 5) rfl) (by decide) ?_
    refine v_goto (tgt := 16) (am_Dk d_Op_isNamedVariable (k := 6) rfl) (by decide) ?_
    exact v_ireturn (am_Dk d_Op_isNamedVariable (k := 8) rfl) rfl rfl (by omega) (by omega) ⟨by rw [decide_eq_true (Int32.not_le.mp (by assumption))]; rfl, rfl, rfl⟩
set_option maxRecDepth 20000 in
theorem t_Op_copy (G : am_G) {d nx : Nat} (hd : 0 ≤ d) {M : am_M} {x y : Nat} {e a b e2 a2 b2 : Int32} {v v2 : Int64} (hx : M x = some (.inr (8, [.int e, .long v, .int a, .int b]))) (hy : M y = some (.inr (8, [.int e2, .long v2, .int a2, .int b2]))) (hxy : ¬ y = x) : am_Tr G m_Op_copy d 0 0 [.ref x, .ref y] M nx (fun r M1 nx1 => r = .inl none ∧ M1 = am_up M x (.inr (8, [.int e2, .long v2, .int a2, .int b2])) ∧ nx1 = nx) := by
  refine am_TrOf (by decide) (Nat.le_of_ble_eq_true rfl) ?_
  show am_V G _ _ _ _ _ 0 [(0, .ref x), (1, .ref y)] [] M nx 0 0
  refine v_aload_n (am_Dk d_Op_copy (k := 0) rfl) rfl ?_
  refine v_aload_n (am_Dk d_Op_copy (k := 1) rfl) rfl ?_
  refine v_get (am_Dk d_Op_copy (k := 2) rfl) f_Op_18 hy rfl ?_
  refine v_put (am_Dk d_Op_copy (k := 3) rfl) f_Op_18 hx (Nat.le_of_ble_eq_true rfl) rfl rfl ?_
  refine v_aload_n (am_Dk d_Op_copy (k := 4) rfl) rfl ?_
  refine v_aload_n (am_Dk d_Op_copy (k := 5) rfl) rfl ?_
  have m1 : (am_up M x (.inr (8, [.int e2, .long v, .int a, .int b]))) y = some (.inr (8, [.int e2, .long v2, .int a2, .int b2])) := (am_up_ne (show y ≠ x from hxy)).trans (hy)
  refine v_get (am_Dk d_Op_copy (k := 6) rfl) f_Op_21 m1 rfl ?_
  have m2 : (am_up M x (.inr (8, [.int e2, .long v, .int a, .int b]))) x = some (.inr (8, [.int e2, .long v, .int a, .int b])) := am_up_eq _ _ _
  refine v_put (am_Dk d_Op_copy (k := 7) rfl) f_Op_21 m2 (Nat.le_of_ble_eq_true rfl) rfl rfl ?_
  rw [am_uu0 (a := x)]
  refine v_aload_n (am_Dk d_Op_copy (k := 8) rfl) rfl ?_
  refine v_aload_n (am_Dk d_Op_copy (k := 9) rfl) rfl ?_
  have m3 : (am_up M x (.inr (8, [.int e2, .long v2, .int a, .int b]))) y = some (.inr (8, [.int e2, .long v2, .int a2, .int b2])) := (am_up_ne (show y ≠ x from hxy)).trans (hy)
  refine v_get (am_Dk d_Op_copy (k := 10) rfl) f_Op_9 m3 rfl ?_
  have m4 : (am_up M x (.inr (8, [.int e2, .long v2, .int a, .int b]))) x = some (.inr (8, [.int e2, .long v2, .int a, .int b])) := am_up_eq _ _ _
  refine v_put (am_Dk d_Op_copy (k := 11) rfl) f_Op_9 m4 (Nat.le_of_ble_eq_true rfl) rfl rfl ?_
  rw [am_uu0 (a := x)]
  refine v_aload_n (am_Dk d_Op_copy (k := 12) rfl) rfl ?_
  refine v_aload_n (am_Dk d_Op_copy (k := 13) rfl) rfl ?_
  have m5 : (am_up M x (.inr (8, [.int e2, .long v2, .int a2, .int b]))) y = some (.inr (8, [.int e2, .long v2, .int a2, .int b2])) := (am_up_ne (show y ≠ x from hxy)).trans (hy)
  refine v_get (am_Dk d_Op_copy (k := 14) rfl) f_Op_15 m5 rfl ?_
  have m6 : (am_up M x (.inr (8, [.int e2, .long v2, .int a2, .int b]))) x = some (.inr (8, [.int e2, .long v2, .int a2, .int b])) := am_up_eq _ _ _
  refine v_put (am_Dk d_Op_copy (k := 15) rfl) f_Op_15 m6 (Nat.le_of_ble_eq_true rfl) rfl rfl ?_
  rw [am_uu0 (a := x)]
  exact v_return (am_Dk d_Op_copy (k := 16) rfl) rfl (by omega) (by omega) ⟨rfl, rfl, rfl⟩
set_option maxRecDepth 20000 in
theorem t_Op_settle (G : am_G) {d nx : Nat} (hd : 0 ≤ d) {M : am_M} {x : Nat} {e a b : Int32} {v : Int64} (hx : M x = some (.inr (8, [.int e, .long v, .int a, .int b]))) {r9 : Int64} : am_Tr G m_Op_settle d 0 0 [.ref x, .long r9] M nx (fun r M1 nx1 => r = .inl none ∧ M1 = am_up M x (.inr (8, [.int (setE r9), .long (setN r9), .int 0, .int 0])) ∧ nx1 = nx) := by
  refine am_TrOf (by decide) (Nat.le_of_ble_eq_true rfl) ?_
  show am_V G _ _ _ _ _ 0 [(0, .ref x), (1, .long r9)] [] M nx 0 0
  refine v_lload_n (am_Dk d_Op_settle (k := 0) rfl) rfl ?_
  refine v_ldc2 (am_Dk d_Op_settle (k := 1) rfl) k_Op_25 ?_
  refine v_lcmp (am_Dk d_Op_settle (k := 2) rfl) ?_
  refine v_if_gt (tgt := 20) (am_Dk d_Op_settle (k := 3) rfl) (by decide) (fun c1 => ?_) (fun c1 => ?_)
  · have Nc1 := (lg_cmp_gt _ _).mp c1
    refine v_iconst (v := 0) (am_Dk d_Op_settle (k := 10) rfl) (by decide) ?_
    refine v_istore_n (L1 := [(3, .int 0), (0, .ref x), (1, .long r9)]) (am_Dk d_Op_settle (k := 11) rfl) (by decide) rfl ?_
    refine v_aload_n (am_Dk d_Op_settle (k := 12) rfl) rfl ?_
    refine v_iload_n (am_Dk d_Op_settle (k := 13) rfl) rfl ?_
    refine v_if_eq (tgt := 31) (am_Dk d_Op_settle (k := 14) rfl) (by decide) (fun c2 => ?_) (fun c2 => ?_)
    · have Nc2 := (nI_eq (a := 0) (b := 0) (by omega) (by omega)).mp c2
      refine v_iconst (v := 4) (am_Dk d_Op_settle (k := 17) rfl) (by decide) ?_
      refine v_put (am_Dk d_Op_settle (k := 18) rfl) f_Op_18 hx (Nat.le_of_ble_eq_true rfl) rfl rfl ?_
      refine v_aload_n (am_Dk d_Op_settle (k := 19) rfl) rfl ?_
      refine v_iload_n (am_Dk d_Op_settle (k := 20) rfl) rfl ?_
      refine v_if_eq (tgt := 44) (am_Dk d_Op_settle (k := 21) rfl) (by decide) (fun c3 => ?_) (fun c3 => ?_)
      · have Nc3 := (nI_eq (a := 0) (b := 0) (by omega) (by omega)).mp c3
        refine v_lconst (v := 0) (am_Dk d_Op_settle (k := 24) rfl) (by decide) ?_
        have m4 : (am_up M x (.inr (8, [.int 4, .long v, .int a, .int b]))) x = some (.inr (8, [.int 4, .long v, .int a, .int b])) := am_up_eq _ _ _
        refine v_put (am_Dk d_Op_settle (k := 25) rfl) f_Op_21 m4 (Nat.le_of_ble_eq_true rfl) rfl rfl ?_
        rw [am_uu0 (a := x)]
        refine v_aload_n (am_Dk d_Op_settle (k := 26) rfl) rfl ?_
        refine v_iconst (v := 0) (am_Dk d_Op_settle (k := 27) rfl) (by decide) ?_
        have m5 : (am_up M x (.inr (8, [.int 4, .long 0, .int a, .int b]))) x = some (.inr (8, [.int 4, .long 0, .int a, .int b])) := am_up_eq _ _ _
        refine v_put (am_Dk d_Op_settle (k := 28) rfl) f_Op_9 m5 (Nat.le_of_ble_eq_true rfl) rfl rfl ?_
        rw [am_uu0 (a := x)]
        refine v_aload_n (am_Dk d_Op_settle (k := 29) rfl) rfl ?_
        refine v_iconst (v := 0) (am_Dk d_Op_settle (k := 30) rfl) (by decide) ?_
        have m6 : (am_up M x (.inr (8, [.int 4, .long 0, .int 0, .int b]))) x = some (.inr (8, [.int 4, .long 0, .int 0, .int b])) := am_up_eq _ _ _
        refine v_put (am_Dk d_Op_settle (k := 31) rfl) f_Op_15 m6 (Nat.le_of_ble_eq_true rfl) rfl rfl ?_
        rw [am_uu0 (a := x)]
        exact v_return (am_Dk d_Op_settle (k := 32) rfl) rfl (by omega) (by omega) ⟨rfl, by rw [setE, setN, if_neg (show ¬ fitP r9 = true from ne_true_of_eq_false (decide_eq_false (by first | exact fun z => absurd z.1 (Int64.not_le.mpr (by assumption)) | exact fun z => absurd z.2 (Int64.not_le.mpr (by assumption))))), if_neg (show ¬ fitP r9 = true from ne_true_of_eq_false (decide_eq_false (by first | exact fun z => absurd z.1 (Int64.not_le.mpr (by assumption)) | exact fun z => absurd z.2 (Int64.not_le.mpr (by assumption)))))]; rfl, rfl⟩
      · exact absurd (by decide) c3
    · exact absurd (by decide) c2
  · have Nc1 := fun z => c1 ((lg_cmp_gt _ _).mpr z)
    refine v_lload_n (am_Dk d_Op_settle (k := 4) rfl) rfl ?_
    refine v_ldc2 (am_Dk d_Op_settle (k := 5) rfl) k_Op_27 ?_
    refine v_lcmp (am_Dk d_Op_settle (k := 6) rfl) ?_
    refine v_if_lt (tgt := 20) (am_Dk d_Op_settle (k := 7) rfl) (by decide) (fun c7 => ?_) (fun c7 => ?_)
    · have Nc7 := (lg_cmp_lt _ _).mp c7
      refine v_iconst (v := 0) (am_Dk d_Op_settle (k := 10) rfl) (by decide) ?_
      refine v_istore_n (L1 := [(3, .int 0), (0, .ref x), (1, .long r9)]) (am_Dk d_Op_settle (k := 11) rfl) (by decide) rfl ?_
      refine v_aload_n (am_Dk d_Op_settle (k := 12) rfl) rfl ?_
      refine v_iload_n (am_Dk d_Op_settle (k := 13) rfl) rfl ?_
      refine v_if_eq (tgt := 31) (am_Dk d_Op_settle (k := 14) rfl) (by decide) (fun c8 => ?_) (fun c8 => ?_)
      · have Nc8 := (nI_eq (a := 0) (b := 0) (by omega) (by omega)).mp c8
        refine v_iconst (v := 4) (am_Dk d_Op_settle (k := 17) rfl) (by decide) ?_
        refine v_put (am_Dk d_Op_settle (k := 18) rfl) f_Op_18 hx (Nat.le_of_ble_eq_true rfl) rfl rfl ?_
        refine v_aload_n (am_Dk d_Op_settle (k := 19) rfl) rfl ?_
        refine v_iload_n (am_Dk d_Op_settle (k := 20) rfl) rfl ?_
        refine v_if_eq (tgt := 44) (am_Dk d_Op_settle (k := 21) rfl) (by decide) (fun c9 => ?_) (fun c9 => ?_)
        · have Nc9 := (nI_eq (a := 0) (b := 0) (by omega) (by omega)).mp c9
          refine v_lconst (v := 0) (am_Dk d_Op_settle (k := 24) rfl) (by decide) ?_
          have m10 : (am_up M x (.inr (8, [.int 4, .long v, .int a, .int b]))) x = some (.inr (8, [.int 4, .long v, .int a, .int b])) := am_up_eq _ _ _
          refine v_put (am_Dk d_Op_settle (k := 25) rfl) f_Op_21 m10 (Nat.le_of_ble_eq_true rfl) rfl rfl ?_
          rw [am_uu0 (a := x)]
          refine v_aload_n (am_Dk d_Op_settle (k := 26) rfl) rfl ?_
          refine v_iconst (v := 0) (am_Dk d_Op_settle (k := 27) rfl) (by decide) ?_
          have m11 : (am_up M x (.inr (8, [.int 4, .long 0, .int a, .int b]))) x = some (.inr (8, [.int 4, .long 0, .int a, .int b])) := am_up_eq _ _ _
          refine v_put (am_Dk d_Op_settle (k := 28) rfl) f_Op_9 m11 (Nat.le_of_ble_eq_true rfl) rfl rfl ?_
          rw [am_uu0 (a := x)]
          refine v_aload_n (am_Dk d_Op_settle (k := 29) rfl) rfl ?_
          refine v_iconst (v := 0) (am_Dk d_Op_settle (k := 30) rfl) (by decide) ?_
          have m12 : (am_up M x (.inr (8, [.int 4, .long 0, .int 0, .int b]))) x = some (.inr (8, [.int 4, .long 0, .int 0, .int b])) := am_up_eq _ _ _
          refine v_put (am_Dk d_Op_settle (k := 31) rfl) f_Op_15 m12 (Nat.le_of_ble_eq_true rfl) rfl rfl ?_
          rw [am_uu0 (a := x)]
          exact v_return (am_Dk d_Op_settle (k := 32) rfl) rfl (by omega) (by omega) ⟨rfl, by rw [setE, setN, if_neg (show ¬ fitP r9 = true from ne_true_of_eq_false (decide_eq_false (by first | exact fun z => absurd z.1 (Int64.not_le.mpr (by assumption)) | exact fun z => absurd z.2 (Int64.not_le.mpr (by assumption))))), if_neg (show ¬ fitP r9 = true from ne_true_of_eq_false (decide_eq_false (by first | exact fun z => absurd z.1 (Int64.not_le.mpr (by assumption)) | exact fun z => absurd z.2 (Int64.not_le.mpr (by assumption)))))]; rfl, rfl⟩
        · exact absurd (by decide) c9
      · exact absurd (by decide) c8
    · have Nc7 := fun z => c7 ((lg_cmp_lt _ _).mpr z)
      refine v_iconst (v := 1) (am_Dk d_Op_settle (k := 8) rfl) (by decide) ?_
      refine v_goto (tgt := 21) (am_Dk d_Op_settle (k := 9) rfl) (by decide) ?_
      refine v_istore_n (L1 := [(3, .int 1), (0, .ref x), (1, .long r9)]) (am_Dk d_Op_settle (k := 11) rfl) (by decide) rfl ?_
      refine v_aload_n (am_Dk d_Op_settle (k := 12) rfl) rfl ?_
      refine v_iload_n (am_Dk d_Op_settle (k := 13) rfl) rfl ?_
      refine v_if_eq (tgt := 31) (am_Dk d_Op_settle (k := 14) rfl) (by decide) (fun c13 => ?_) (fun c13 => ?_)
      · exact absurd c13 (by decide)
      · have Nc13 : ¬ 1 = 0 := fun z => c13 ((nI_eq (a := 1) (b := 0) (by omega) (by omega)).mpr z)
        refine v_iconst (v := 0) (am_Dk d_Op_settle (k := 15) rfl) (by decide) ?_
        refine v_goto (tgt := 32) (am_Dk d_Op_settle (k := 16) rfl) (by decide) ?_
        refine v_put (am_Dk d_Op_settle (k := 18) rfl) f_Op_18 hx (Nat.le_of_ble_eq_true rfl) rfl rfl ?_
        refine v_aload_n (am_Dk d_Op_settle (k := 19) rfl) rfl ?_
        refine v_iload_n (am_Dk d_Op_settle (k := 20) rfl) rfl ?_
        refine v_if_eq (tgt := 44) (am_Dk d_Op_settle (k := 21) rfl) (by decide) (fun c14 => ?_) (fun c14 => ?_)
        · exact absurd c14 (by decide)
        · have Nc14 : ¬ 1 = 0 := fun z => c14 ((nI_eq (a := 1) (b := 0) (by omega) (by omega)).mpr z)
          refine v_lload_n (am_Dk d_Op_settle (k := 22) rfl) rfl ?_
          refine v_goto (tgt := 45) (am_Dk d_Op_settle (k := 23) rfl) (by decide) ?_
          have m15 : (am_up M x (.inr (8, [.int 0, .long v, .int a, .int b]))) x = some (.inr (8, [.int 0, .long v, .int a, .int b])) := am_up_eq _ _ _
          refine v_put (am_Dk d_Op_settle (k := 25) rfl) f_Op_21 m15 (Nat.le_of_ble_eq_true rfl) rfl rfl ?_
          rw [am_uu0 (a := x)]
          refine v_aload_n (am_Dk d_Op_settle (k := 26) rfl) rfl ?_
          refine v_iconst (v := 0) (am_Dk d_Op_settle (k := 27) rfl) (by decide) ?_
          have m16 : (am_up M x (.inr (8, [.int 0, .long r9, .int a, .int b]))) x = some (.inr (8, [.int 0, .long r9, .int a, .int b])) := am_up_eq _ _ _
          refine v_put (am_Dk d_Op_settle (k := 28) rfl) f_Op_9 m16 (Nat.le_of_ble_eq_true rfl) rfl rfl ?_
          rw [am_uu0 (a := x)]
          refine v_aload_n (am_Dk d_Op_settle (k := 29) rfl) rfl ?_
          refine v_iconst (v := 0) (am_Dk d_Op_settle (k := 30) rfl) (by decide) ?_
          have m17 : (am_up M x (.inr (8, [.int 0, .long r9, .int 0, .int b]))) x = some (.inr (8, [.int 0, .long r9, .int 0, .int b])) := am_up_eq _ _ _
          refine v_put (am_Dk d_Op_settle (k := 31) rfl) f_Op_15 m17 (Nat.le_of_ble_eq_true rfl) rfl rfl ?_
          rw [am_uu0 (a := x)]
          exact v_return (am_Dk d_Op_settle (k := 32) rfl) rfl (by omega) (by omega) ⟨rfl, by rw [setE, setN, if_pos (show fitP r9 = true from decide_eq_true ⟨Int64.not_lt.mp (by assumption), Int64.not_lt.mp (by assumption)⟩), if_pos (show fitP r9 = true from decide_eq_true ⟨Int64.not_lt.mp (by assumption), Int64.not_lt.mp (by assumption)⟩)]; rfl, rfl⟩
def rk1 (k : Nat) (e : Int32) (v : Int64) : Int32 × Int64 := if oneK k = true then (if e = 0 then (if k = 18 then (setE (-v), setN (-v)) else (setE (jabs v), setN (jabs v))) else (e, 0)) else (2, 0)
def rk2 (k : Nat) (e1 : Int32) (v1 : Int64) (e : Int32) (v : Int64) : Int32 × Int64 := if twoK k = true then (if e1 = 0 then (if e = 0 then (if dvsK k = true ∧ v = 0 then (3, 0) else if k = 19 ∧ ptg v1 v = true then (4, 0) else (setE (resK k v1 v), setN (resK k v1 v))) else (e, 0)) else (e1, 0)) else (2, 0)
set_option maxRecDepth 20000 in
theorem t_Op_reckonOne (G : am_G) {d nx : Nat} (hd : 1 ≤ d) {M : am_M} {x : Nat} {e a b : Int32} {v : Int64} (hx : M x = some (.inr (8, [.int e, .long v, .int a, .int b]))) {k : Nat} (hk : k < 26) : am_Tr G m_Op_reckonOne d 0 0 [.ref x, .ref k] M nx (fun r M1 nx1 => r = .inl none ∧ M1 = am_up M x (.inr (8, [.int ((rk1 k e v).1), .long ((rk1 k e v).2), .int 0, .int 0])) ∧ nx1 = nx) := by
  refine am_TrOf (by decide) (Nat.le_of_ble_eq_true rfl) ?_
  show am_V G _ _ _ _ _ 0 [(0, .ref x), (1, .ref k)] [] M nx 0 0
  refine v_aload_n (am_Dk d_Op_reckonOne (k := 0) rfl) rfl ?_
  refine v_callV (rest := []) (As := []) (mc' := 0) (ms' := 0) (am_Dk d_Op_reckonOne (k := 1) rfl) c_Op_29 (Or.inr (kn_all k hk).1) (t_Nm_isOfOne G (d := 0) (by omega) hk) (by omega) (by omega) (by omega) (by simp [Value.category]) rfl (fun v1 M2 n3 h4 => ?_) (fun _ _ _ h4 => ?_)
  rotate_left
  · exact absurd h4.1 (by simp)
  obtain ⟨h4, e5, e6⟩ := h4
  replace e5 := e5.symm
  replace e6 := e6.symm
  subst e5
  subst e6
  cases h4
  show am_V G _ _ _ _ _ 4 [(0, .ref x), (1, .ref k)] [.int (bi (oneK k))] M nx 0 0
  refine v_if_eq (tgt := 14) (am_Dk d_Op_reckonOne (k := 2) rfl) (by decide) (fun c7 => ?_) (fun c7 => ?_)
  · have Nc7 := bi0.mp c7
    refine v_iconst (v := 2) (am_Dk d_Op_reckonOne (k := 6) rfl) (by decide) ?_
    refine v_istore_n (L1 := [(2, .int 2), (0, .ref x), (1, .ref k)]) (am_Dk d_Op_reckonOne (k := 7) rfl) (by decide) rfl ?_
    refine v_iload_n (am_Dk d_Op_reckonOne (k := 8) rfl) rfl ?_
    refine v_if_eq (tgt := 28) (am_Dk d_Op_reckonOne (k := 9) rfl) (by decide) (fun c8 => ?_) (fun c8 => ?_)
    · exact absurd c8 (by decide)
    · have Nc8 : ¬ 2 = 0 := fun z => c8 ((nI_eq (a := 2) (b := 0) (by omega) (by omega)).mpr z)
      refine v_aload_n (am_Dk d_Op_reckonOne (k := 10) rfl) rfl ?_
      refine v_iload_n (am_Dk d_Op_reckonOne (k := 11) rfl) rfl ?_
      refine v_callV (rest := []) (As := [.int 2]) (mc' := 0) (ms' := 0) (am_Dk d_Op_reckonOne (k := 12) rfl) c_Op_35 (Or.inl ⟨_, _, _, _, _, hx, cq_ok8⟩) (t_Op_fail G (d := 0) (by omega) hx) (by omega) (by omega) (by omega) (by simp [Value.category]) rfl (fun v9 M10 n11 h12 => ?_) (fun _ _ _ h12 => ?_)
      rotate_left
      · exact absurd h12.1 (by simp)
      obtain ⟨h12, e13, e14⟩ := h12
      replace e13 := e13.symm
      replace e14 := e14.symm
      subst e13
      subst e14
      cases h12
      show am_V G _ _ _ _ _ 25 [(2, .int 2), (0, .ref x), (1, .ref k)] [] (am_up M x (.inr (8, [.int 2, .long 0, .int 0, .int 0]))) nx 0 0
      refine v_goto (tgt := 54) (am_Dk d_Op_reckonOne (k := 13) rfl) (by decide) ?_
      exact v_return (am_Dk d_Op_reckonOne (k := 26) rfl) rfl (by omega) (by omega) ⟨rfl, by simp_all [rk1], rfl⟩
  · have Nc7 := bi1 c7
    refine v_aload_n (am_Dk d_Op_reckonOne (k := 3) rfl) rfl ?_
    refine v_get (am_Dk d_Op_reckonOne (k := 4) rfl) f_Op_18 hx rfl ?_
    refine v_goto (tgt := 15) (am_Dk d_Op_reckonOne (k := 5) rfl) (by decide) ?_
    refine v_istore_n (L1 := [(2, .int e), (0, .ref x), (1, .ref k)]) (am_Dk d_Op_reckonOne (k := 7) rfl) (by decide) rfl ?_
    refine v_iload_n (am_Dk d_Op_reckonOne (k := 8) rfl) rfl ?_
    refine v_if_eq (tgt := 28) (am_Dk d_Op_reckonOne (k := 9) rfl) (by decide) (fun c15 => ?_) (fun c15 => ?_)
    · refine v_aload_n (am_Dk d_Op_reckonOne (k := 14) rfl) rfl ?_
      refine v_aload_n (am_Dk d_Op_reckonOne (k := 15) rfl) rfl ?_
      refine v_gets (v := .ref 18) (am_Dk d_Op_reckonOne (k := 16) rfl) s_Op_39 (by decide +kernel) ?_
      refine v_acmp_ne (rx := (some k)) (ry := (some 18)) (tgt := 44) (am_Dk d_Op_reckonOne (k := 17) rfl) rfl rfl (by decide) (en_N (by first | decide | omega) (by first | decide | omega)) (fun c16 => ?_) (fun c16 => ?_)
      · refine v_aload_n (am_Dk d_Op_reckonOne (k := 22) rfl) rfl ?_
        refine v_get (am_Dk d_Op_reckonOne (k := 23) rfl) f_Op_21 hx rfl ?_
        refine v_callS (rest := [.ref x]) (As := [.long v]) (mc' := 0) (ms' := 0) (am_Dk d_Op_reckonOne (k := 24) rfl) c_Op_43 (t_jM_abs G (d := 0) (by omega)) (by omega) (by omega) (by omega) (by simp [Value.category]) rfl (fun v17 M18 n19 h20 => ?_) (fun _ _ _ h20 => ?_)
        rotate_left
        · exact absurd h20.1 (by simp)
        obtain ⟨h20, e21, e22⟩ := h20
        replace e21 := e21.symm
        replace e22 := e22.symm
        subst e21
        subst e22
        cases h20
        show am_V G _ _ _ _ _ 51 [(2, .int e), (0, .ref x), (1, .ref k)] [.long (jabs v), .ref x] M nx 0 0
        refine v_callV (rest := []) (As := [.long (jabs v)]) (mc' := 0) (ms' := 0) (am_Dk d_Op_reckonOne (k := 25) rfl) c_Op_49 (Or.inl ⟨_, _, _, _, _, hx, cq_ok8⟩) (t_Op_settle G (d := 0) (by omega) hx) (by omega) (by omega) (by omega) (by simp [Value.category]) rfl (fun v23 M24 n25 h26 => ?_) (fun _ _ _ h26 => ?_)
        rotate_left
        · exact absurd h26.1 (by simp)
        obtain ⟨h26, e27, e28⟩ := h26
        replace e27 := e27.symm
        replace e28 := e28.symm
        subst e27
        subst e28
        cases h26
        show am_V G _ _ _ _ _ 54 [(2, .int e), (0, .ref x), (1, .ref k)] [] (am_up M x (.inr (8, [.int (setE (jabs v)), .long (setN (jabs v)), .int 0, .int 0]))) nx 0 0
        exact v_return (am_Dk d_Op_reckonOne (k := 26) rfl) rfl (by omega) (by omega) ⟨rfl, by simp_all [rk1], rfl⟩
      · refine v_aload_n (am_Dk d_Op_reckonOne (k := 18) rfl) rfl ?_
        refine v_get (am_Dk d_Op_reckonOne (k := 19) rfl) f_Op_21 hx rfl ?_
        refine v_lneg (am_Dk d_Op_reckonOne (k := 20) rfl) ?_
        refine v_goto (tgt := 51) (am_Dk d_Op_reckonOne (k := 21) rfl) (by decide) ?_
        refine v_callV (rest := []) (As := [.long (-v)]) (mc' := 0) (ms' := 0) (am_Dk d_Op_reckonOne (k := 25) rfl) c_Op_49 (Or.inl ⟨_, _, _, _, _, hx, cq_ok8⟩) (t_Op_settle G (d := 0) (by omega) hx) (by omega) (by omega) (by omega) (by simp [Value.category]) rfl (fun v29 M30 n31 h32 => ?_) (fun _ _ _ h32 => ?_)
        rotate_left
        · exact absurd h32.1 (by simp)
        obtain ⟨h32, e33, e34⟩ := h32
        replace e33 := e33.symm
        replace e34 := e34.symm
        subst e33
        subst e34
        cases h32
        show am_V G _ _ _ _ _ 54 [(2, .int e), (0, .ref x), (1, .ref k)] [] (am_up M x (.inr (8, [.int (setE (-v)), .long (setN (-v)), .int 0, .int 0]))) nx 0 0
        exact v_return (am_Dk d_Op_reckonOne (k := 26) rfl) rfl (by omega) (by omega) ⟨rfl, by simp_all [rk1], rfl⟩
    · refine v_aload_n (am_Dk d_Op_reckonOne (k := 10) rfl) rfl ?_
      refine v_iload_n (am_Dk d_Op_reckonOne (k := 11) rfl) rfl ?_
      refine v_callV (rest := []) (As := [.int e]) (mc' := 0) (ms' := 0) (am_Dk d_Op_reckonOne (k := 12) rfl) c_Op_35 (Or.inl ⟨_, _, _, _, _, hx, cq_ok8⟩) (t_Op_fail G (d := 0) (by omega) hx) (by omega) (by omega) (by omega) (by simp [Value.category]) rfl (fun v35 M36 n37 h38 => ?_) (fun _ _ _ h38 => ?_)
      rotate_left
      · exact absurd h38.1 (by simp)
      obtain ⟨h38, e39, e40⟩ := h38
      replace e39 := e39.symm
      replace e40 := e40.symm
      subst e39
      subst e40
      cases h38
      show am_V G _ _ _ _ _ 25 [(2, .int e), (0, .ref x), (1, .ref k)] [] (am_up M x (.inr (8, [.int e, .long 0, .int 0, .int 0]))) nx 0 0
      refine v_goto (tgt := 54) (am_Dk d_Op_reckonOne (k := 13) rfl) (by decide) ?_
      exact v_return (am_Dk d_Op_reckonOne (k := 26) rfl) rfl (by omega) (by omega) ⟨rfl, by simp_all [rk1], rfl⟩
set_option maxRecDepth 20000 in
theorem t_Op_reckonTwo (G : am_G) {d nx : Nat} (hd : 2 ≤ d) {M : am_M} {x y : Nat} {e a b e2 a2 b2 : Int32} {v v2 : Int64} (hx : M x = some (.inr (8, [.int e, .long v, .int a, .int b]))) (hy : M y = some (.inr (8, [.int e2, .long v2, .int a2, .int b2]))) (hxy : ¬ y = x) {k : Nat} (hk : k < 26) : am_Tr G m_Op_reckonTwo d 0 0 [.ref x, .ref k, .ref y] M nx (fun r M1 nx1 => r = .inl none ∧ M1 = am_up M x (.inr (8, [.int ((rk2 k e2 v2 e v).1), .long ((rk2 k e2 v2 e v).2), .int 0, .int 0])) ∧ nx1 = nx) := by
  refine am_TrOf (by decide) (Nat.le_of_ble_eq_true rfl) ?_
  show am_V G _ _ _ _ _ 0 [(0, .ref x), (1, .ref k), (2, .ref y)] [] M nx 0 0
  refine v_aload_n (am_Dk d_Op_reckonTwo (k := 0) rfl) rfl ?_
  refine v_get (am_Dk d_Op_reckonTwo (k := 1) rfl) f_Op_18 hy rfl ?_
  refine v_if_eq (tgt := 14) (am_Dk d_Op_reckonTwo (k := 2) rfl) (by decide) (fun c1 => ?_) (fun c1 => ?_)
  · refine v_aload_n (am_Dk d_Op_reckonTwo (k := 6) rfl) rfl ?_
    refine v_get (am_Dk d_Op_reckonTwo (k := 7) rfl) f_Op_18 hx rfl ?_
    refine v_istore_n (L1 := [(3, .int e), (0, .ref x), (1, .ref k), (2, .ref y)]) (am_Dk d_Op_reckonTwo (k := 8) rfl) (by decide) rfl ?_
    refine v_aload_n (am_Dk d_Op_reckonTwo (k := 9) rfl) rfl ?_
    refine v_callV (rest := []) (As := []) (mc' := 0) (ms' := 0) (am_Dk d_Op_reckonTwo (k := 10) rfl) c_Op_53 (Or.inr (kn_all k hk).1) (t_Nm_isOfTwo G (d := 1) (by omega) hk) (by omega) (by omega) (by omega) (by simp [Value.category]) rfl (fun v2 M3 n4 h5 => ?_) (fun _ _ _ h5 => ?_)
    rotate_left
    · exact absurd h5.1 (by simp)
    obtain ⟨h5, e6, e7⟩ := h5
    replace e6 := e6.symm
    replace e7 := e7.symm
    subst e6
    subst e7
    cases h5
    show am_V G _ _ _ _ _ 23 [(3, .int e), (0, .ref x), (1, .ref k), (2, .ref y)] [.int (bi (twoK k))] M nx 0 0
    refine v_if_eq (tgt := 30) (am_Dk d_Op_reckonTwo (k := 11) rfl) (by decide) (fun c8 => ?_) (fun c8 => ?_)
    · have Nc8 := bi0.mp c8
      refine v_iconst (v := 2) (am_Dk d_Op_reckonTwo (k := 14) rfl) (by decide) ?_
      refine v_istore (L1 := [(4, .int 2), (3, .int e), (0, .ref x), (1, .ref k), (2, .ref y)]) (am_Dk d_Op_reckonTwo (k := 15) rfl) (by decide) rfl ?_
      refine v_iload (am_Dk d_Op_reckonTwo (k := 16) rfl) rfl ?_
      refine v_if_eq (tgt := 47) (am_Dk d_Op_reckonTwo (k := 17) rfl) (by decide) (fun c9 => ?_) (fun c9 => ?_)
      · exact absurd c9 (by decide)
      · have Nc9 : ¬ 2 = 0 := fun z => c9 ((nI_eq (a := 2) (b := 0) (by omega) (by omega)).mpr z)
        refine v_aload_n (am_Dk d_Op_reckonTwo (k := 18) rfl) rfl ?_
        refine v_iload (am_Dk d_Op_reckonTwo (k := 19) rfl) rfl ?_
        refine v_callV (rest := []) (As := [.int 2]) (mc' := 0) (ms' := 0) (am_Dk d_Op_reckonTwo (k := 20) rfl) c_Op_35 (Or.inl ⟨_, _, _, _, _, hx, cq_ok8⟩) (t_Op_fail G (d := 0) (by omega) hx) (by omega) (by omega) (by omega) (by simp [Value.category]) rfl (fun v10 M11 n12 h13 => ?_) (fun _ _ _ h13 => ?_)
        rotate_left
        · exact absurd h13.1 (by simp)
        obtain ⟨h13, e14, e15⟩ := h13
        replace e14 := e14.symm
        replace e15 := e15.symm
        subst e14
        subst e15
        cases h13
        show am_V G _ _ _ _ _ 44 [(4, .int 2), (3, .int e), (0, .ref x), (1, .ref k), (2, .ref y)] [] (am_up M x (.inr (8, [.int 2, .long 0, .int 0, .int 0]))) nx 0 0
        refine v_goto (tgt := 116) (am_Dk d_Op_reckonTwo (k := 21) rfl) (by decide) ?_
        exact v_return (am_Dk d_Op_reckonTwo (k := 55) rfl) rfl (by omega) (by omega) ⟨rfl, by simp_all [rk2], rfl⟩
    · have Nc8 := bi1 c8
      refine v_iload_n (am_Dk d_Op_reckonTwo (k := 12) rfl) rfl ?_
      refine v_goto (tgt := 31) (am_Dk d_Op_reckonTwo (k := 13) rfl) (by decide) ?_
      refine v_istore (L1 := [(4, .int e), (3, .int e), (0, .ref x), (1, .ref k), (2, .ref y)]) (am_Dk d_Op_reckonTwo (k := 15) rfl) (by decide) rfl ?_
      refine v_iload (am_Dk d_Op_reckonTwo (k := 16) rfl) rfl ?_
      refine v_if_eq (tgt := 47) (am_Dk d_Op_reckonTwo (k := 17) rfl) (by decide) (fun c16 => ?_) (fun c16 => ?_)
      · refine v_aload_n (am_Dk d_Op_reckonTwo (k := 22) rfl) rfl ?_
        refine v_callV (rest := []) (As := []) (mc' := 0) (ms' := 0) (am_Dk d_Op_reckonTwo (k := 23) rfl) c_Op_56 (Or.inr (kn_all k hk).1) (t_Nm_divides G (d := 0) (by omega) hk) (by omega) (by omega) (by omega) (by simp [Value.category]) rfl (fun v17 M18 n19 h20 => ?_) (fun _ _ _ h20 => ?_)
        rotate_left
        · exact absurd h20.1 (by simp)
        obtain ⟨h20, e21, e22⟩ := h20
        replace e21 := e21.symm
        replace e22 := e22.symm
        subst e21
        subst e22
        cases h20
        show am_V G _ _ _ _ _ 51 [(4, .int e), (3, .int e), (0, .ref x), (1, .ref k), (2, .ref y)] [.int (bi (dvsK k))] M nx 0 0
        refine v_if_eq (tgt := 71) (am_Dk d_Op_reckonTwo (k := 24) rfl) (by decide) (fun c23 => ?_) (fun c23 => ?_)
        · have Nc23 := bi0.mp c23
          refine v_aload_n (am_Dk d_Op_reckonTwo (k := 34) rfl) rfl ?_
          refine v_gets (v := .ref 19) (am_Dk d_Op_reckonTwo (k := 35) rfl) s_Op_59 (by decide +kernel) ?_
          refine v_acmp_ne (rx := (some k)) (ry := (some 19)) (tgt := 100) (am_Dk d_Op_reckonTwo (k := 36) rfl) rfl rfl (by decide) (en_N (by first | decide | omega) (by first | decide | omega)) (fun c24 => ?_) (fun c24 => ?_)
          · refine v_aload_n (am_Dk d_Op_reckonTwo (k := 47) rfl) rfl ?_
            refine v_aload_n (am_Dk d_Op_reckonTwo (k := 48) rfl) rfl ?_
            refine v_aload_n (am_Dk d_Op_reckonTwo (k := 49) rfl) rfl ?_
            refine v_get (am_Dk d_Op_reckonTwo (k := 50) rfl) f_Op_21 hy rfl ?_
            refine v_aload_n (am_Dk d_Op_reckonTwo (k := 51) rfl) rfl ?_
            refine v_get (am_Dk d_Op_reckonTwo (k := 52) rfl) f_Op_21 hx rfl ?_
            refine v_callV (rest := [.ref x]) (As := [.long v2, .long v]) (mc' := 0) (ms' := 0) (am_Dk d_Op_reckonTwo (k := 53) rfl) c_Op_66 (Or.inr (kn_all k hk).1) (t_Nm_resultOf G (d := 1) (by omega) (by assumption)) (by omega) (by omega) (by omega) (by simp [Value.category]) rfl (fun v25 M26 n27 h28 => ?_) (fun _ _ _ h28 => ?_)
            rotate_left
            · exact absurd h28.1 (by simp)
            obtain ⟨h28, e29, e30⟩ := h28
            replace e29 := e29.symm
            replace e30 := e30.symm
            subst e29
            subst e30
            cases h28
            show am_V G _ _ _ _ _ 113 [(4, .int e), (3, .int e), (0, .ref x), (1, .ref k), (2, .ref y)] [.long (resK k v2 v), .ref x] M nx 0 0
            refine v_callV (rest := []) (As := [.long (resK k v2 v)]) (mc' := 0) (ms' := 0) (am_Dk d_Op_reckonTwo (k := 54) rfl) c_Op_49 (Or.inl ⟨_, _, _, _, _, hx, cq_ok8⟩) (t_Op_settle G (d := 0) (by omega) hx) (by omega) (by omega) (by omega) (by simp [Value.category]) rfl (fun v31 M32 n33 h34 => ?_) (fun _ _ _ h34 => ?_)
            rotate_left
            · exact absurd h34.1 (by simp)
            obtain ⟨h34, e35, e36⟩ := h34
            replace e35 := e35.symm
            replace e36 := e36.symm
            subst e35
            subst e36
            cases h34
            show am_V G _ _ _ _ _ 116 [(4, .int e), (3, .int e), (0, .ref x), (1, .ref k), (2, .ref y)] [] (am_up M x (.inr (8, [.int (setE (resK k v2 v)), .long (setN (resK k v2 v)), .int 0, .int 0]))) nx 0 0
            exact v_return (am_Dk d_Op_reckonTwo (k := 55) rfl) rfl (by omega) (by omega) ⟨rfl, by simp_all [rk2], rfl⟩
          · refine v_aload_n (am_Dk d_Op_reckonTwo (k := 37) rfl) rfl ?_
            refine v_get (am_Dk d_Op_reckonTwo (k := 38) rfl) f_Op_21 hy rfl ?_
            refine v_aload_n (am_Dk d_Op_reckonTwo (k := 39) rfl) rfl ?_
            refine v_get (am_Dk d_Op_reckonTwo (k := 40) rfl) f_Op_21 hx rfl ?_
            refine v_callS (rest := []) (As := [.long v2, .long v]) (mc' := 0) (ms' := 0) (am_Dk d_Op_reckonTwo (k := 41) rfl) c_Op_62 (t_Op_isProductTooGreat G (d := 1) (by omega)) (by omega) (by omega) (by omega) (by simp [Value.category]) rfl (fun v37 M38 n39 h40 => ?_) (fun _ _ _ h40 => ?_)
            rotate_left
            · exact absurd h40.1 (by simp)
            obtain ⟨h40, e41, e42⟩ := h40
            replace e41 := e41.symm
            replace e42 := e42.symm
            subst e41
            subst e42
            cases h40
            show am_V G _ _ _ _ _ 89 [(4, .int e), (3, .int e), (0, .ref x), (1, .ref k), (2, .ref y)] [.int (bi (ptg v2 v))] M nx 0 0
            refine v_if_eq (tgt := 100) (am_Dk d_Op_reckonTwo (k := 42) rfl) (by decide) (fun c43 => ?_) (fun c43 => ?_)
            · have Nc43 := bi0.mp c43
              refine v_aload_n (am_Dk d_Op_reckonTwo (k := 47) rfl) rfl ?_
              refine v_aload_n (am_Dk d_Op_reckonTwo (k := 48) rfl) rfl ?_
              refine v_aload_n (am_Dk d_Op_reckonTwo (k := 49) rfl) rfl ?_
              refine v_get (am_Dk d_Op_reckonTwo (k := 50) rfl) f_Op_21 hy rfl ?_
              refine v_aload_n (am_Dk d_Op_reckonTwo (k := 51) rfl) rfl ?_
              refine v_get (am_Dk d_Op_reckonTwo (k := 52) rfl) f_Op_21 hx rfl ?_
              refine v_callV (rest := [.ref x]) (As := [.long v2, .long v]) (mc' := 0) (ms' := 0) (am_Dk d_Op_reckonTwo (k := 53) rfl) c_Op_66 (Or.inr (kn_all k hk).1) (t_Nm_resultOf G (d := 1) (by omega) (by assumption)) (by omega) (by omega) (by omega) (by simp [Value.category]) rfl (fun v44 M45 n46 h47 => ?_) (fun _ _ _ h47 => ?_)
              rotate_left
              · exact absurd h47.1 (by simp)
              obtain ⟨h47, e48, e49⟩ := h47
              replace e48 := e48.symm
              replace e49 := e49.symm
              subst e48
              subst e49
              cases h47
              show am_V G _ _ _ _ _ 113 [(4, .int e), (3, .int e), (0, .ref x), (1, .ref k), (2, .ref y)] [.long (resK k v2 v), .ref x] M nx 0 0
              refine v_callV (rest := []) (As := [.long (resK k v2 v)]) (mc' := 0) (ms' := 0) (am_Dk d_Op_reckonTwo (k := 54) rfl) c_Op_49 (Or.inl ⟨_, _, _, _, _, hx, cq_ok8⟩) (t_Op_settle G (d := 0) (by omega) hx) (by omega) (by omega) (by omega) (by simp [Value.category]) rfl (fun v50 M51 n52 h53 => ?_) (fun _ _ _ h53 => ?_)
              rotate_left
              · exact absurd h53.1 (by simp)
              obtain ⟨h53, e54, e55⟩ := h53
              replace e54 := e54.symm
              replace e55 := e55.symm
              subst e54
              subst e55
              cases h53
              show am_V G _ _ _ _ _ 116 [(4, .int e), (3, .int e), (0, .ref x), (1, .ref k), (2, .ref y)] [] (am_up M x (.inr (8, [.int (setE (resK k v2 v)), .long (setN (resK k v2 v)), .int 0, .int 0]))) nx 0 0
              exact v_return (am_Dk d_Op_reckonTwo (k := 55) rfl) rfl (by omega) (by omega) ⟨rfl, by simp_all [rk2], rfl⟩
            · have Nc43 := bi1 c43
              refine v_aload_n (am_Dk d_Op_reckonTwo (k := 43) rfl) rfl ?_
              refine v_iconst (v := 4) (am_Dk d_Op_reckonTwo (k := 44) rfl) (by decide) ?_
              refine v_callV (rest := []) (As := [.int 4]) (mc' := 0) (ms' := 0) (am_Dk d_Op_reckonTwo (k := 45) rfl) c_Op_35 (Or.inl ⟨_, _, _, _, _, hx, cq_ok8⟩) (t_Op_fail G (d := 0) (by omega) hx) (by omega) (by omega) (by omega) (by simp [Value.category]) rfl (fun v56 M57 n58 h59 => ?_) (fun _ _ _ h59 => ?_)
              rotate_left
              · exact absurd h59.1 (by simp)
              obtain ⟨h59, e60, e61⟩ := h59
              replace e60 := e60.symm
              replace e61 := e61.symm
              subst e60
              subst e61
              cases h59
              show am_V G _ _ _ _ _ 97 [(4, .int e), (3, .int e), (0, .ref x), (1, .ref k), (2, .ref y)] [] (am_up M x (.inr (8, [.int 4, .long 0, .int 0, .int 0]))) nx 0 0
              refine v_goto (tgt := 116) (am_Dk d_Op_reckonTwo (k := 46) rfl) (by decide) ?_
              exact v_return (am_Dk d_Op_reckonTwo (k := 55) rfl) rfl (by omega) (by omega) ⟨rfl, by simp_all [rk2], rfl⟩
        · have Nc23 := bi1 c23
          refine v_aload_n (am_Dk d_Op_reckonTwo (k := 25) rfl) rfl ?_
          refine v_get (am_Dk d_Op_reckonTwo (k := 26) rfl) f_Op_21 hx rfl ?_
          refine v_lconst (v := 0) (am_Dk d_Op_reckonTwo (k := 27) rfl) (by decide) ?_
          refine v_lcmp (am_Dk d_Op_reckonTwo (k := 28) rfl) ?_
          refine v_if_ne (tgt := 71) (am_Dk d_Op_reckonTwo (k := 29) rfl) (by decide) (fun c62 => ?_) (fun c62 => ?_)
          · have Nc62 := fun z => c62 ((lg_cmp_eq _ _).mpr z)
            refine v_aload_n (am_Dk d_Op_reckonTwo (k := 34) rfl) rfl ?_
            refine v_gets (v := .ref 19) (am_Dk d_Op_reckonTwo (k := 35) rfl) s_Op_59 (by decide +kernel) ?_
            refine v_acmp_ne (rx := (some k)) (ry := (some 19)) (tgt := 100) (am_Dk d_Op_reckonTwo (k := 36) rfl) rfl rfl (by decide) (en_N (by first | decide | omega) (by first | decide | omega)) (fun c63 => ?_) (fun c63 => ?_)
            · refine v_aload_n (am_Dk d_Op_reckonTwo (k := 47) rfl) rfl ?_
              refine v_aload_n (am_Dk d_Op_reckonTwo (k := 48) rfl) rfl ?_
              refine v_aload_n (am_Dk d_Op_reckonTwo (k := 49) rfl) rfl ?_
              refine v_get (am_Dk d_Op_reckonTwo (k := 50) rfl) f_Op_21 hy rfl ?_
              refine v_aload_n (am_Dk d_Op_reckonTwo (k := 51) rfl) rfl ?_
              refine v_get (am_Dk d_Op_reckonTwo (k := 52) rfl) f_Op_21 hx rfl ?_
              refine v_callV (rest := [.ref x]) (As := [.long v2, .long v]) (mc' := 0) (ms' := 0) (am_Dk d_Op_reckonTwo (k := 53) rfl) c_Op_66 (Or.inr (kn_all k hk).1) (t_Nm_resultOf G (d := 1) (by omega) (by assumption)) (by omega) (by omega) (by omega) (by simp [Value.category]) rfl (fun v64 M65 n66 h67 => ?_) (fun _ _ _ h67 => ?_)
              rotate_left
              · exact absurd h67.1 (by simp)
              obtain ⟨h67, e68, e69⟩ := h67
              replace e68 := e68.symm
              replace e69 := e69.symm
              subst e68
              subst e69
              cases h67
              show am_V G _ _ _ _ _ 113 [(4, .int e), (3, .int e), (0, .ref x), (1, .ref k), (2, .ref y)] [.long (resK k v2 v), .ref x] M nx 0 0
              refine v_callV (rest := []) (As := [.long (resK k v2 v)]) (mc' := 0) (ms' := 0) (am_Dk d_Op_reckonTwo (k := 54) rfl) c_Op_49 (Or.inl ⟨_, _, _, _, _, hx, cq_ok8⟩) (t_Op_settle G (d := 0) (by omega) hx) (by omega) (by omega) (by omega) (by simp [Value.category]) rfl (fun v70 M71 n72 h73 => ?_) (fun _ _ _ h73 => ?_)
              rotate_left
              · exact absurd h73.1 (by simp)
              obtain ⟨h73, e74, e75⟩ := h73
              replace e74 := e74.symm
              replace e75 := e75.symm
              subst e74
              subst e75
              cases h73
              show am_V G _ _ _ _ _ 116 [(4, .int e), (3, .int e), (0, .ref x), (1, .ref k), (2, .ref y)] [] (am_up M x (.inr (8, [.int (setE (resK k v2 v)), .long (setN (resK k v2 v)), .int 0, .int 0]))) nx 0 0
              exact v_return (am_Dk d_Op_reckonTwo (k := 55) rfl) rfl (by omega) (by omega) ⟨rfl, by simp_all [rk2], rfl⟩
            · refine v_aload_n (am_Dk d_Op_reckonTwo (k := 37) rfl) rfl ?_
              refine v_get (am_Dk d_Op_reckonTwo (k := 38) rfl) f_Op_21 hy rfl ?_
              refine v_aload_n (am_Dk d_Op_reckonTwo (k := 39) rfl) rfl ?_
              refine v_get (am_Dk d_Op_reckonTwo (k := 40) rfl) f_Op_21 hx rfl ?_
              refine v_callS (rest := []) (As := [.long v2, .long v]) (mc' := 0) (ms' := 0) (am_Dk d_Op_reckonTwo (k := 41) rfl) c_Op_62 (t_Op_isProductTooGreat G (d := 1) (by omega)) (by omega) (by omega) (by omega) (by simp [Value.category]) rfl (fun v76 M77 n78 h79 => ?_) (fun _ _ _ h79 => ?_)
              rotate_left
              · exact absurd h79.1 (by simp)
              obtain ⟨h79, e80, e81⟩ := h79
              replace e80 := e80.symm
              replace e81 := e81.symm
              subst e80
              subst e81
              cases h79
              show am_V G _ _ _ _ _ 89 [(4, .int e), (3, .int e), (0, .ref x), (1, .ref k), (2, .ref y)] [.int (bi (ptg v2 v))] M nx 0 0
              refine v_if_eq (tgt := 100) (am_Dk d_Op_reckonTwo (k := 42) rfl) (by decide) (fun c82 => ?_) (fun c82 => ?_)
              · have Nc82 := bi0.mp c82
                refine v_aload_n (am_Dk d_Op_reckonTwo (k := 47) rfl) rfl ?_
                refine v_aload_n (am_Dk d_Op_reckonTwo (k := 48) rfl) rfl ?_
                refine v_aload_n (am_Dk d_Op_reckonTwo (k := 49) rfl) rfl ?_
                refine v_get (am_Dk d_Op_reckonTwo (k := 50) rfl) f_Op_21 hy rfl ?_
                refine v_aload_n (am_Dk d_Op_reckonTwo (k := 51) rfl) rfl ?_
                refine v_get (am_Dk d_Op_reckonTwo (k := 52) rfl) f_Op_21 hx rfl ?_
                refine v_callV (rest := [.ref x]) (As := [.long v2, .long v]) (mc' := 0) (ms' := 0) (am_Dk d_Op_reckonTwo (k := 53) rfl) c_Op_66 (Or.inr (kn_all k hk).1) (t_Nm_resultOf G (d := 1) (by omega) (by assumption)) (by omega) (by omega) (by omega) (by simp [Value.category]) rfl (fun v83 M84 n85 h86 => ?_) (fun _ _ _ h86 => ?_)
                rotate_left
                · exact absurd h86.1 (by simp)
                obtain ⟨h86, e87, e88⟩ := h86
                replace e87 := e87.symm
                replace e88 := e88.symm
                subst e87
                subst e88
                cases h86
                show am_V G _ _ _ _ _ 113 [(4, .int e), (3, .int e), (0, .ref x), (1, .ref k), (2, .ref y)] [.long (resK k v2 v), .ref x] M nx 0 0
                refine v_callV (rest := []) (As := [.long (resK k v2 v)]) (mc' := 0) (ms' := 0) (am_Dk d_Op_reckonTwo (k := 54) rfl) c_Op_49 (Or.inl ⟨_, _, _, _, _, hx, cq_ok8⟩) (t_Op_settle G (d := 0) (by omega) hx) (by omega) (by omega) (by omega) (by simp [Value.category]) rfl (fun v89 M90 n91 h92 => ?_) (fun _ _ _ h92 => ?_)
                rotate_left
                · exact absurd h92.1 (by simp)
                obtain ⟨h92, e93, e94⟩ := h92
                replace e93 := e93.symm
                replace e94 := e94.symm
                subst e93
                subst e94
                cases h92
                show am_V G _ _ _ _ _ 116 [(4, .int e), (3, .int e), (0, .ref x), (1, .ref k), (2, .ref y)] [] (am_up M x (.inr (8, [.int (setE (resK k v2 v)), .long (setN (resK k v2 v)), .int 0, .int 0]))) nx 0 0
                exact v_return (am_Dk d_Op_reckonTwo (k := 55) rfl) rfl (by omega) (by omega) ⟨rfl, by simp_all [rk2], rfl⟩
              · have Nc82 := bi1 c82
                refine v_aload_n (am_Dk d_Op_reckonTwo (k := 43) rfl) rfl ?_
                refine v_iconst (v := 4) (am_Dk d_Op_reckonTwo (k := 44) rfl) (by decide) ?_
                refine v_callV (rest := []) (As := [.int 4]) (mc' := 0) (ms' := 0) (am_Dk d_Op_reckonTwo (k := 45) rfl) c_Op_35 (Or.inl ⟨_, _, _, _, _, hx, cq_ok8⟩) (t_Op_fail G (d := 0) (by omega) hx) (by omega) (by omega) (by omega) (by simp [Value.category]) rfl (fun v95 M96 n97 h98 => ?_) (fun _ _ _ h98 => ?_)
                rotate_left
                · exact absurd h98.1 (by simp)
                obtain ⟨h98, e99, e100⟩ := h98
                replace e99 := e99.symm
                replace e100 := e100.symm
                subst e99
                subst e100
                cases h98
                show am_V G _ _ _ _ _ 97 [(4, .int e), (3, .int e), (0, .ref x), (1, .ref k), (2, .ref y)] [] (am_up M x (.inr (8, [.int 4, .long 0, .int 0, .int 0]))) nx 0 0
                refine v_goto (tgt := 116) (am_Dk d_Op_reckonTwo (k := 46) rfl) (by decide) ?_
                exact v_return (am_Dk d_Op_reckonTwo (k := 55) rfl) rfl (by omega) (by omega) ⟨rfl, by simp_all [rk2], rfl⟩
          · have Nc62 := (lg_cmp_eq _ _).mp c62
            refine v_aload_n (am_Dk d_Op_reckonTwo (k := 30) rfl) rfl ?_
            refine v_iconst (v := 3) (am_Dk d_Op_reckonTwo (k := 31) rfl) (by decide) ?_
            refine v_callV (rest := []) (As := [.int 3]) (mc' := 0) (ms' := 0) (am_Dk d_Op_reckonTwo (k := 32) rfl) c_Op_35 (Or.inl ⟨_, _, _, _, _, hx, cq_ok8⟩) (t_Op_fail G (d := 0) (by omega) hx) (by omega) (by omega) (by omega) (by simp [Value.category]) rfl (fun v101 M102 n103 h104 => ?_) (fun _ _ _ h104 => ?_)
            rotate_left
            · exact absurd h104.1 (by simp)
            obtain ⟨h104, e105, e106⟩ := h104
            replace e105 := e105.symm
            replace e106 := e106.symm
            subst e105
            subst e106
            cases h104
            show am_V G _ _ _ _ _ 68 [(4, .int e), (3, .int e), (0, .ref x), (1, .ref k), (2, .ref y)] [] (am_up M x (.inr (8, [.int 3, .long 0, .int 0, .int 0]))) nx 0 0
            refine v_goto (tgt := 116) (am_Dk d_Op_reckonTwo (k := 33) rfl) (by decide) ?_
            exact v_return (am_Dk d_Op_reckonTwo (k := 55) rfl) rfl (by omega) (by omega) ⟨rfl, by simp_all [rk2], rfl⟩
      · refine v_aload_n (am_Dk d_Op_reckonTwo (k := 18) rfl) rfl ?_
        refine v_iload (am_Dk d_Op_reckonTwo (k := 19) rfl) rfl ?_
        refine v_callV (rest := []) (As := [.int e]) (mc' := 0) (ms' := 0) (am_Dk d_Op_reckonTwo (k := 20) rfl) c_Op_35 (Or.inl ⟨_, _, _, _, _, hx, cq_ok8⟩) (t_Op_fail G (d := 0) (by omega) hx) (by omega) (by omega) (by omega) (by simp [Value.category]) rfl (fun v107 M108 n109 h110 => ?_) (fun _ _ _ h110 => ?_)
        rotate_left
        · exact absurd h110.1 (by simp)
        obtain ⟨h110, e111, e112⟩ := h110
        replace e111 := e111.symm
        replace e112 := e112.symm
        subst e111
        subst e112
        cases h110
        show am_V G _ _ _ _ _ 44 [(4, .int e), (3, .int e), (0, .ref x), (1, .ref k), (2, .ref y)] [] (am_up M x (.inr (8, [.int e, .long 0, .int 0, .int 0]))) nx 0 0
        refine v_goto (tgt := 116) (am_Dk d_Op_reckonTwo (k := 21) rfl) (by decide) ?_
        exact v_return (am_Dk d_Op_reckonTwo (k := 55) rfl) rfl (by omega) (by omega) ⟨rfl, by simp_all [rk2], rfl⟩
  · refine v_aload_n (am_Dk d_Op_reckonTwo (k := 3) rfl) rfl ?_
    refine v_get (am_Dk d_Op_reckonTwo (k := 4) rfl) f_Op_18 hy rfl ?_
    refine v_goto (tgt := 18) (am_Dk d_Op_reckonTwo (k := 5) rfl) (by decide) ?_
    refine v_istore_n (L1 := [(3, .int e2), (0, .ref x), (1, .ref k), (2, .ref y)]) (am_Dk d_Op_reckonTwo (k := 8) rfl) (by decide) rfl ?_
    refine v_aload_n (am_Dk d_Op_reckonTwo (k := 9) rfl) rfl ?_
    refine v_callV (rest := []) (As := []) (mc' := 0) (ms' := 0) (am_Dk d_Op_reckonTwo (k := 10) rfl) c_Op_53 (Or.inr (kn_all k hk).1) (t_Nm_isOfTwo G (d := 1) (by omega) hk) (by omega) (by omega) (by omega) (by simp [Value.category]) rfl (fun v113 M114 n115 h116 => ?_) (fun _ _ _ h116 => ?_)
    rotate_left
    · exact absurd h116.1 (by simp)
    obtain ⟨h116, e117, e118⟩ := h116
    replace e117 := e117.symm
    replace e118 := e118.symm
    subst e117
    subst e118
    cases h116
    show am_V G _ _ _ _ _ 23 [(3, .int e2), (0, .ref x), (1, .ref k), (2, .ref y)] [.int (bi (twoK k))] M nx 0 0
    refine v_if_eq (tgt := 30) (am_Dk d_Op_reckonTwo (k := 11) rfl) (by decide) (fun c119 => ?_) (fun c119 => ?_)
    · have Nc119 := bi0.mp c119
      refine v_iconst (v := 2) (am_Dk d_Op_reckonTwo (k := 14) rfl) (by decide) ?_
      refine v_istore (L1 := [(4, .int 2), (3, .int e2), (0, .ref x), (1, .ref k), (2, .ref y)]) (am_Dk d_Op_reckonTwo (k := 15) rfl) (by decide) rfl ?_
      refine v_iload (am_Dk d_Op_reckonTwo (k := 16) rfl) rfl ?_
      refine v_if_eq (tgt := 47) (am_Dk d_Op_reckonTwo (k := 17) rfl) (by decide) (fun c120 => ?_) (fun c120 => ?_)
      · exact absurd c120 (by decide)
      · have Nc120 : ¬ 2 = 0 := fun z => c120 ((nI_eq (a := 2) (b := 0) (by omega) (by omega)).mpr z)
        refine v_aload_n (am_Dk d_Op_reckonTwo (k := 18) rfl) rfl ?_
        refine v_iload (am_Dk d_Op_reckonTwo (k := 19) rfl) rfl ?_
        refine v_callV (rest := []) (As := [.int 2]) (mc' := 0) (ms' := 0) (am_Dk d_Op_reckonTwo (k := 20) rfl) c_Op_35 (Or.inl ⟨_, _, _, _, _, hx, cq_ok8⟩) (t_Op_fail G (d := 0) (by omega) hx) (by omega) (by omega) (by omega) (by simp [Value.category]) rfl (fun v121 M122 n123 h124 => ?_) (fun _ _ _ h124 => ?_)
        rotate_left
        · exact absurd h124.1 (by simp)
        obtain ⟨h124, e125, e126⟩ := h124
        replace e125 := e125.symm
        replace e126 := e126.symm
        subst e125
        subst e126
        cases h124
        show am_V G _ _ _ _ _ 44 [(4, .int 2), (3, .int e2), (0, .ref x), (1, .ref k), (2, .ref y)] [] (am_up M x (.inr (8, [.int 2, .long 0, .int 0, .int 0]))) nx 0 0
        refine v_goto (tgt := 116) (am_Dk d_Op_reckonTwo (k := 21) rfl) (by decide) ?_
        exact v_return (am_Dk d_Op_reckonTwo (k := 55) rfl) rfl (by omega) (by omega) ⟨rfl, by simp_all [rk2], rfl⟩
    · have Nc119 := bi1 c119
      refine v_iload_n (am_Dk d_Op_reckonTwo (k := 12) rfl) rfl ?_
      refine v_goto (tgt := 31) (am_Dk d_Op_reckonTwo (k := 13) rfl) (by decide) ?_
      refine v_istore (L1 := [(4, .int e2), (3, .int e2), (0, .ref x), (1, .ref k), (2, .ref y)]) (am_Dk d_Op_reckonTwo (k := 15) rfl) (by decide) rfl ?_
      refine v_iload (am_Dk d_Op_reckonTwo (k := 16) rfl) rfl ?_
      refine v_if_eq (tgt := 47) (am_Dk d_Op_reckonTwo (k := 17) rfl) (by decide) (fun c127 => ?_) (fun c127 => ?_)
      · refine v_aload_n (am_Dk d_Op_reckonTwo (k := 22) rfl) rfl ?_
        refine v_callV (rest := []) (As := []) (mc' := 0) (ms' := 0) (am_Dk d_Op_reckonTwo (k := 23) rfl) c_Op_56 (Or.inr (kn_all k hk).1) (t_Nm_divides G (d := 0) (by omega) hk) (by omega) (by omega) (by omega) (by simp [Value.category]) rfl (fun v128 M129 n130 h131 => ?_) (fun _ _ _ h131 => ?_)
        rotate_left
        · exact absurd h131.1 (by simp)
        obtain ⟨h131, e132, e133⟩ := h131
        replace e132 := e132.symm
        replace e133 := e133.symm
        subst e132
        subst e133
        cases h131
        show am_V G _ _ _ _ _ 51 [(4, .int e2), (3, .int e2), (0, .ref x), (1, .ref k), (2, .ref y)] [.int (bi (dvsK k))] M nx 0 0
        refine v_if_eq (tgt := 71) (am_Dk d_Op_reckonTwo (k := 24) rfl) (by decide) (fun c134 => ?_) (fun c134 => ?_)
        · have Nc134 := bi0.mp c134
          refine v_aload_n (am_Dk d_Op_reckonTwo (k := 34) rfl) rfl ?_
          refine v_gets (v := .ref 19) (am_Dk d_Op_reckonTwo (k := 35) rfl) s_Op_59 (by decide +kernel) ?_
          refine v_acmp_ne (rx := (some k)) (ry := (some 19)) (tgt := 100) (am_Dk d_Op_reckonTwo (k := 36) rfl) rfl rfl (by decide) (en_N (by first | decide | omega) (by first | decide | omega)) (fun c135 => ?_) (fun c135 => ?_)
          · refine v_aload_n (am_Dk d_Op_reckonTwo (k := 47) rfl) rfl ?_
            refine v_aload_n (am_Dk d_Op_reckonTwo (k := 48) rfl) rfl ?_
            refine v_aload_n (am_Dk d_Op_reckonTwo (k := 49) rfl) rfl ?_
            refine v_get (am_Dk d_Op_reckonTwo (k := 50) rfl) f_Op_21 hy rfl ?_
            refine v_aload_n (am_Dk d_Op_reckonTwo (k := 51) rfl) rfl ?_
            refine v_get (am_Dk d_Op_reckonTwo (k := 52) rfl) f_Op_21 hx rfl ?_
            refine v_callV (rest := [.ref x]) (As := [.long v2, .long v]) (mc' := 0) (ms' := 0) (am_Dk d_Op_reckonTwo (k := 53) rfl) c_Op_66 (Or.inr (kn_all k hk).1) (t_Nm_resultOf G (d := 1) (by omega) (by assumption)) (by omega) (by omega) (by omega) (by simp [Value.category]) rfl (fun v136 M137 n138 h139 => ?_) (fun _ _ _ h139 => ?_)
            rotate_left
            · exact absurd h139.1 (by simp)
            obtain ⟨h139, e140, e141⟩ := h139
            replace e140 := e140.symm
            replace e141 := e141.symm
            subst e140
            subst e141
            cases h139
            show am_V G _ _ _ _ _ 113 [(4, .int e2), (3, .int e2), (0, .ref x), (1, .ref k), (2, .ref y)] [.long (resK k v2 v), .ref x] M nx 0 0
            refine v_callV (rest := []) (As := [.long (resK k v2 v)]) (mc' := 0) (ms' := 0) (am_Dk d_Op_reckonTwo (k := 54) rfl) c_Op_49 (Or.inl ⟨_, _, _, _, _, hx, cq_ok8⟩) (t_Op_settle G (d := 0) (by omega) hx) (by omega) (by omega) (by omega) (by simp [Value.category]) rfl (fun v142 M143 n144 h145 => ?_) (fun _ _ _ h145 => ?_)
            rotate_left
            · exact absurd h145.1 (by simp)
            obtain ⟨h145, e146, e147⟩ := h145
            replace e146 := e146.symm
            replace e147 := e147.symm
            subst e146
            subst e147
            cases h145
            show am_V G _ _ _ _ _ 116 [(4, .int e2), (3, .int e2), (0, .ref x), (1, .ref k), (2, .ref y)] [] (am_up M x (.inr (8, [.int (setE (resK k v2 v)), .long (setN (resK k v2 v)), .int 0, .int 0]))) nx 0 0
            exact v_return (am_Dk d_Op_reckonTwo (k := 55) rfl) rfl (by omega) (by omega) ⟨rfl, by simp_all [rk2], rfl⟩
          · refine v_aload_n (am_Dk d_Op_reckonTwo (k := 37) rfl) rfl ?_
            refine v_get (am_Dk d_Op_reckonTwo (k := 38) rfl) f_Op_21 hy rfl ?_
            refine v_aload_n (am_Dk d_Op_reckonTwo (k := 39) rfl) rfl ?_
            refine v_get (am_Dk d_Op_reckonTwo (k := 40) rfl) f_Op_21 hx rfl ?_
            refine v_callS (rest := []) (As := [.long v2, .long v]) (mc' := 0) (ms' := 0) (am_Dk d_Op_reckonTwo (k := 41) rfl) c_Op_62 (t_Op_isProductTooGreat G (d := 1) (by omega)) (by omega) (by omega) (by omega) (by simp [Value.category]) rfl (fun v148 M149 n150 h151 => ?_) (fun _ _ _ h151 => ?_)
            rotate_left
            · exact absurd h151.1 (by simp)
            obtain ⟨h151, e152, e153⟩ := h151
            replace e152 := e152.symm
            replace e153 := e153.symm
            subst e152
            subst e153
            cases h151
            show am_V G _ _ _ _ _ 89 [(4, .int e2), (3, .int e2), (0, .ref x), (1, .ref k), (2, .ref y)] [.int (bi (ptg v2 v))] M nx 0 0
            refine v_if_eq (tgt := 100) (am_Dk d_Op_reckonTwo (k := 42) rfl) (by decide) (fun c154 => ?_) (fun c154 => ?_)
            · have Nc154 := bi0.mp c154
              refine v_aload_n (am_Dk d_Op_reckonTwo (k := 47) rfl) rfl ?_
              refine v_aload_n (am_Dk d_Op_reckonTwo (k := 48) rfl) rfl ?_
              refine v_aload_n (am_Dk d_Op_reckonTwo (k := 49) rfl) rfl ?_
              refine v_get (am_Dk d_Op_reckonTwo (k := 50) rfl) f_Op_21 hy rfl ?_
              refine v_aload_n (am_Dk d_Op_reckonTwo (k := 51) rfl) rfl ?_
              refine v_get (am_Dk d_Op_reckonTwo (k := 52) rfl) f_Op_21 hx rfl ?_
              refine v_callV (rest := [.ref x]) (As := [.long v2, .long v]) (mc' := 0) (ms' := 0) (am_Dk d_Op_reckonTwo (k := 53) rfl) c_Op_66 (Or.inr (kn_all k hk).1) (t_Nm_resultOf G (d := 1) (by omega) (by assumption)) (by omega) (by omega) (by omega) (by simp [Value.category]) rfl (fun v155 M156 n157 h158 => ?_) (fun _ _ _ h158 => ?_)
              rotate_left
              · exact absurd h158.1 (by simp)
              obtain ⟨h158, e159, e160⟩ := h158
              replace e159 := e159.symm
              replace e160 := e160.symm
              subst e159
              subst e160
              cases h158
              show am_V G _ _ _ _ _ 113 [(4, .int e2), (3, .int e2), (0, .ref x), (1, .ref k), (2, .ref y)] [.long (resK k v2 v), .ref x] M nx 0 0
              refine v_callV (rest := []) (As := [.long (resK k v2 v)]) (mc' := 0) (ms' := 0) (am_Dk d_Op_reckonTwo (k := 54) rfl) c_Op_49 (Or.inl ⟨_, _, _, _, _, hx, cq_ok8⟩) (t_Op_settle G (d := 0) (by omega) hx) (by omega) (by omega) (by omega) (by simp [Value.category]) rfl (fun v161 M162 n163 h164 => ?_) (fun _ _ _ h164 => ?_)
              rotate_left
              · exact absurd h164.1 (by simp)
              obtain ⟨h164, e165, e166⟩ := h164
              replace e165 := e165.symm
              replace e166 := e166.symm
              subst e165
              subst e166
              cases h164
              show am_V G _ _ _ _ _ 116 [(4, .int e2), (3, .int e2), (0, .ref x), (1, .ref k), (2, .ref y)] [] (am_up M x (.inr (8, [.int (setE (resK k v2 v)), .long (setN (resK k v2 v)), .int 0, .int 0]))) nx 0 0
              exact v_return (am_Dk d_Op_reckonTwo (k := 55) rfl) rfl (by omega) (by omega) ⟨rfl, by simp_all [rk2], rfl⟩
            · have Nc154 := bi1 c154
              refine v_aload_n (am_Dk d_Op_reckonTwo (k := 43) rfl) rfl ?_
              refine v_iconst (v := 4) (am_Dk d_Op_reckonTwo (k := 44) rfl) (by decide) ?_
              refine v_callV (rest := []) (As := [.int 4]) (mc' := 0) (ms' := 0) (am_Dk d_Op_reckonTwo (k := 45) rfl) c_Op_35 (Or.inl ⟨_, _, _, _, _, hx, cq_ok8⟩) (t_Op_fail G (d := 0) (by omega) hx) (by omega) (by omega) (by omega) (by simp [Value.category]) rfl (fun v167 M168 n169 h170 => ?_) (fun _ _ _ h170 => ?_)
              rotate_left
              · exact absurd h170.1 (by simp)
              obtain ⟨h170, e171, e172⟩ := h170
              replace e171 := e171.symm
              replace e172 := e172.symm
              subst e171
              subst e172
              cases h170
              show am_V G _ _ _ _ _ 97 [(4, .int e2), (3, .int e2), (0, .ref x), (1, .ref k), (2, .ref y)] [] (am_up M x (.inr (8, [.int 4, .long 0, .int 0, .int 0]))) nx 0 0
              refine v_goto (tgt := 116) (am_Dk d_Op_reckonTwo (k := 46) rfl) (by decide) ?_
              exact v_return (am_Dk d_Op_reckonTwo (k := 55) rfl) rfl (by omega) (by omega) ⟨rfl, by simp_all [rk2], rfl⟩
        · have Nc134 := bi1 c134
          refine v_aload_n (am_Dk d_Op_reckonTwo (k := 25) rfl) rfl ?_
          refine v_get (am_Dk d_Op_reckonTwo (k := 26) rfl) f_Op_21 hx rfl ?_
          refine v_lconst (v := 0) (am_Dk d_Op_reckonTwo (k := 27) rfl) (by decide) ?_
          refine v_lcmp (am_Dk d_Op_reckonTwo (k := 28) rfl) ?_
          refine v_if_ne (tgt := 71) (am_Dk d_Op_reckonTwo (k := 29) rfl) (by decide) (fun c173 => ?_) (fun c173 => ?_)
          · have Nc173 := fun z => c173 ((lg_cmp_eq _ _).mpr z)
            refine v_aload_n (am_Dk d_Op_reckonTwo (k := 34) rfl) rfl ?_
            refine v_gets (v := .ref 19) (am_Dk d_Op_reckonTwo (k := 35) rfl) s_Op_59 (by decide +kernel) ?_
            refine v_acmp_ne (rx := (some k)) (ry := (some 19)) (tgt := 100) (am_Dk d_Op_reckonTwo (k := 36) rfl) rfl rfl (by decide) (en_N (by first | decide | omega) (by first | decide | omega)) (fun c174 => ?_) (fun c174 => ?_)
            · refine v_aload_n (am_Dk d_Op_reckonTwo (k := 47) rfl) rfl ?_
              refine v_aload_n (am_Dk d_Op_reckonTwo (k := 48) rfl) rfl ?_
              refine v_aload_n (am_Dk d_Op_reckonTwo (k := 49) rfl) rfl ?_
              refine v_get (am_Dk d_Op_reckonTwo (k := 50) rfl) f_Op_21 hy rfl ?_
              refine v_aload_n (am_Dk d_Op_reckonTwo (k := 51) rfl) rfl ?_
              refine v_get (am_Dk d_Op_reckonTwo (k := 52) rfl) f_Op_21 hx rfl ?_
              refine v_callV (rest := [.ref x]) (As := [.long v2, .long v]) (mc' := 0) (ms' := 0) (am_Dk d_Op_reckonTwo (k := 53) rfl) c_Op_66 (Or.inr (kn_all k hk).1) (t_Nm_resultOf G (d := 1) (by omega) (by assumption)) (by omega) (by omega) (by omega) (by simp [Value.category]) rfl (fun v175 M176 n177 h178 => ?_) (fun _ _ _ h178 => ?_)
              rotate_left
              · exact absurd h178.1 (by simp)
              obtain ⟨h178, e179, e180⟩ := h178
              replace e179 := e179.symm
              replace e180 := e180.symm
              subst e179
              subst e180
              cases h178
              show am_V G _ _ _ _ _ 113 [(4, .int e2), (3, .int e2), (0, .ref x), (1, .ref k), (2, .ref y)] [.long (resK k v2 v), .ref x] M nx 0 0
              refine v_callV (rest := []) (As := [.long (resK k v2 v)]) (mc' := 0) (ms' := 0) (am_Dk d_Op_reckonTwo (k := 54) rfl) c_Op_49 (Or.inl ⟨_, _, _, _, _, hx, cq_ok8⟩) (t_Op_settle G (d := 0) (by omega) hx) (by omega) (by omega) (by omega) (by simp [Value.category]) rfl (fun v181 M182 n183 h184 => ?_) (fun _ _ _ h184 => ?_)
              rotate_left
              · exact absurd h184.1 (by simp)
              obtain ⟨h184, e185, e186⟩ := h184
              replace e185 := e185.symm
              replace e186 := e186.symm
              subst e185
              subst e186
              cases h184
              show am_V G _ _ _ _ _ 116 [(4, .int e2), (3, .int e2), (0, .ref x), (1, .ref k), (2, .ref y)] [] (am_up M x (.inr (8, [.int (setE (resK k v2 v)), .long (setN (resK k v2 v)), .int 0, .int 0]))) nx 0 0
              exact v_return (am_Dk d_Op_reckonTwo (k := 55) rfl) rfl (by omega) (by omega) ⟨rfl, by simp_all [rk2], rfl⟩
            · refine v_aload_n (am_Dk d_Op_reckonTwo (k := 37) rfl) rfl ?_
              refine v_get (am_Dk d_Op_reckonTwo (k := 38) rfl) f_Op_21 hy rfl ?_
              refine v_aload_n (am_Dk d_Op_reckonTwo (k := 39) rfl) rfl ?_
              refine v_get (am_Dk d_Op_reckonTwo (k := 40) rfl) f_Op_21 hx rfl ?_
              refine v_callS (rest := []) (As := [.long v2, .long v]) (mc' := 0) (ms' := 0) (am_Dk d_Op_reckonTwo (k := 41) rfl) c_Op_62 (t_Op_isProductTooGreat G (d := 1) (by omega)) (by omega) (by omega) (by omega) (by simp [Value.category]) rfl (fun v187 M188 n189 h190 => ?_) (fun _ _ _ h190 => ?_)
              rotate_left
              · exact absurd h190.1 (by simp)
              obtain ⟨h190, e191, e192⟩ := h190
              replace e191 := e191.symm
              replace e192 := e192.symm
              subst e191
              subst e192
              cases h190
              show am_V G _ _ _ _ _ 89 [(4, .int e2), (3, .int e2), (0, .ref x), (1, .ref k), (2, .ref y)] [.int (bi (ptg v2 v))] M nx 0 0
              refine v_if_eq (tgt := 100) (am_Dk d_Op_reckonTwo (k := 42) rfl) (by decide) (fun c193 => ?_) (fun c193 => ?_)
              · have Nc193 := bi0.mp c193
                refine v_aload_n (am_Dk d_Op_reckonTwo (k := 47) rfl) rfl ?_
                refine v_aload_n (am_Dk d_Op_reckonTwo (k := 48) rfl) rfl ?_
                refine v_aload_n (am_Dk d_Op_reckonTwo (k := 49) rfl) rfl ?_
                refine v_get (am_Dk d_Op_reckonTwo (k := 50) rfl) f_Op_21 hy rfl ?_
                refine v_aload_n (am_Dk d_Op_reckonTwo (k := 51) rfl) rfl ?_
                refine v_get (am_Dk d_Op_reckonTwo (k := 52) rfl) f_Op_21 hx rfl ?_
                refine v_callV (rest := [.ref x]) (As := [.long v2, .long v]) (mc' := 0) (ms' := 0) (am_Dk d_Op_reckonTwo (k := 53) rfl) c_Op_66 (Or.inr (kn_all k hk).1) (t_Nm_resultOf G (d := 1) (by omega) (by assumption)) (by omega) (by omega) (by omega) (by simp [Value.category]) rfl (fun v194 M195 n196 h197 => ?_) (fun _ _ _ h197 => ?_)
                rotate_left
                · exact absurd h197.1 (by simp)
                obtain ⟨h197, e198, e199⟩ := h197
                replace e198 := e198.symm
                replace e199 := e199.symm
                subst e198
                subst e199
                cases h197
                show am_V G _ _ _ _ _ 113 [(4, .int e2), (3, .int e2), (0, .ref x), (1, .ref k), (2, .ref y)] [.long (resK k v2 v), .ref x] M nx 0 0
                refine v_callV (rest := []) (As := [.long (resK k v2 v)]) (mc' := 0) (ms' := 0) (am_Dk d_Op_reckonTwo (k := 54) rfl) c_Op_49 (Or.inl ⟨_, _, _, _, _, hx, cq_ok8⟩) (t_Op_settle G (d := 0) (by omega) hx) (by omega) (by omega) (by omega) (by simp [Value.category]) rfl (fun v200 M201 n202 h203 => ?_) (fun _ _ _ h203 => ?_)
                rotate_left
                · exact absurd h203.1 (by simp)
                obtain ⟨h203, e204, e205⟩ := h203
                replace e204 := e204.symm
                replace e205 := e205.symm
                subst e204
                subst e205
                cases h203
                show am_V G _ _ _ _ _ 116 [(4, .int e2), (3, .int e2), (0, .ref x), (1, .ref k), (2, .ref y)] [] (am_up M x (.inr (8, [.int (setE (resK k v2 v)), .long (setN (resK k v2 v)), .int 0, .int 0]))) nx 0 0
                exact v_return (am_Dk d_Op_reckonTwo (k := 55) rfl) rfl (by omega) (by omega) ⟨rfl, by simp_all [rk2], rfl⟩
              · have Nc193 := bi1 c193
                refine v_aload_n (am_Dk d_Op_reckonTwo (k := 43) rfl) rfl ?_
                refine v_iconst (v := 4) (am_Dk d_Op_reckonTwo (k := 44) rfl) (by decide) ?_
                refine v_callV (rest := []) (As := [.int 4]) (mc' := 0) (ms' := 0) (am_Dk d_Op_reckonTwo (k := 45) rfl) c_Op_35 (Or.inl ⟨_, _, _, _, _, hx, cq_ok8⟩) (t_Op_fail G (d := 0) (by omega) hx) (by omega) (by omega) (by omega) (by simp [Value.category]) rfl (fun v206 M207 n208 h209 => ?_) (fun _ _ _ h209 => ?_)
                rotate_left
                · exact absurd h209.1 (by simp)
                obtain ⟨h209, e210, e211⟩ := h209
                replace e210 := e210.symm
                replace e211 := e211.symm
                subst e210
                subst e211
                cases h209
                show am_V G _ _ _ _ _ 97 [(4, .int e2), (3, .int e2), (0, .ref x), (1, .ref k), (2, .ref y)] [] (am_up M x (.inr (8, [.int 4, .long 0, .int 0, .int 0]))) nx 0 0
                refine v_goto (tgt := 116) (am_Dk d_Op_reckonTwo (k := 46) rfl) (by decide) ?_
                exact v_return (am_Dk d_Op_reckonTwo (k := 55) rfl) rfl (by omega) (by omega) ⟨rfl, by simp_all [rk2], rfl⟩
          · have Nc173 := (lg_cmp_eq _ _).mp c173
            refine v_aload_n (am_Dk d_Op_reckonTwo (k := 30) rfl) rfl ?_
            refine v_iconst (v := 3) (am_Dk d_Op_reckonTwo (k := 31) rfl) (by decide) ?_
            refine v_callV (rest := []) (As := [.int 3]) (mc' := 0) (ms' := 0) (am_Dk d_Op_reckonTwo (k := 32) rfl) c_Op_35 (Or.inl ⟨_, _, _, _, _, hx, cq_ok8⟩) (t_Op_fail G (d := 0) (by omega) hx) (by omega) (by omega) (by omega) (by simp [Value.category]) rfl (fun v212 M213 n214 h215 => ?_) (fun _ _ _ h215 => ?_)
            rotate_left
            · exact absurd h215.1 (by simp)
            obtain ⟨h215, e216, e217⟩ := h215
            replace e216 := e216.symm
            replace e217 := e217.symm
            subst e216
            subst e217
            cases h215
            show am_V G _ _ _ _ _ 68 [(4, .int e2), (3, .int e2), (0, .ref x), (1, .ref k), (2, .ref y)] [] (am_up M x (.inr (8, [.int 3, .long 0, .int 0, .int 0]))) nx 0 0
            refine v_goto (tgt := 116) (am_Dk d_Op_reckonTwo (k := 33) rfl) (by decide) ?_
            exact v_return (am_Dk d_Op_reckonTwo (k := 55) rfl) rfl (by omega) (by omega) ⟨rfl, by simp_all [rk2], rfl⟩
      · refine v_aload_n (am_Dk d_Op_reckonTwo (k := 18) rfl) rfl ?_
        refine v_iload (am_Dk d_Op_reckonTwo (k := 19) rfl) rfl ?_
        refine v_callV (rest := []) (As := [.int e2]) (mc' := 0) (ms' := 0) (am_Dk d_Op_reckonTwo (k := 20) rfl) c_Op_35 (Or.inl ⟨_, _, _, _, _, hx, cq_ok8⟩) (t_Op_fail G (d := 0) (by omega) hx) (by omega) (by omega) (by omega) (by simp [Value.category]) rfl (fun v218 M219 n220 h221 => ?_) (fun _ _ _ h221 => ?_)
        rotate_left
        · exact absurd h221.1 (by simp)
        obtain ⟨h221, e222, e223⟩ := h221
        replace e222 := e222.symm
        replace e223 := e223.symm
        subst e222
        subst e223
        cases h221
        show am_V G _ _ _ _ _ 44 [(4, .int e2), (3, .int e2), (0, .ref x), (1, .ref k), (2, .ref y)] [] (am_up M x (.inr (8, [.int e2, .long 0, .int 0, .int 0]))) nx 0 0
        refine v_goto (tgt := 116) (am_Dk d_Op_reckonTwo (k := 21) rfl) (by decide) ?_
        exact v_return (am_Dk d_Op_reckonTwo (k := 55) rfl) rfl (by omega) (by omega) ⟨rfl, by simp_all [rk2], rfl⟩
