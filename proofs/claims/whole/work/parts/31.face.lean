/-! REFUSALS, COUNT, SIZE (mine; rows laid by the walker) -/
set_option maxRecDepth 20000 in
theorem t_VR_refuseError (G : am_G) {d nx : Nat} (hd : 6 ≤ d) {M : am_M} {pl er : Int32} (h0 : M 1000 = some (.inr (0, [.ref 1001, .ref 1003, .ref 1005, .int pl, .int er]))) {c : Int32} (hx : 1240 ≤ nx) : am_Tr G m_VR_refuseError d 1 6 [.ref 1000, .int c] M nx (fun r M1 nx1 => (c = 0 ∧ r = .inl none ∧ M1 = M ∧ nx1 = nx) ∨ (¬ c = 0 ∧ r = .inr nx ∧ M1 = am_up (am_up M 1000 (.inr (0, [.ref 1001, .ref 1003, .ref 1005, .int pl, .int c]))) nx (.inr (15, [])) ∧ nx1 = nx + 1)) := by
  refine am_TrOf (by decide) (Nat.le_of_ble_eq_true rfl) ?_
  show am_V G _ _ _ _ _ 0 [(0, .ref 1000), (1, .int c)] [] M nx 0 0
  refine v_iload_n (am_Dk d_VR_refuseError (k := 0) rfl) rfl ?_
  refine v_if_eq (tgt := 17) (am_Dk d_VR_refuseError (k := 1) rfl) (by decide) (fun c1 => ?_) (fun c1 => ?_)
  · exact v_return (am_Dk d_VR_refuseError (k := 9) rfl) rfl (by omega) (by omega) (Or.inl ⟨by assumption, rfl, rfl, rfl⟩)
  · refine v_aload_n (am_Dk d_VR_refuseError (k := 2) rfl) rfl ?_
    refine v_iload_n (am_Dk d_VR_refuseError (k := 3) rfl) rfl ?_
    refine v_put (am_Dk d_VR_refuseError (k := 4) rfl) f_VR_36 h0 (Nat.le_of_ble_eq_true rfl) rfl rfl ?_
    refine v_newX (am_Dk d_VR_refuseError (k := 5) rfl) (am_Dk d_VR_refuseError (k := 6) rfl) (am_Dk d_VR_refuseError (k := 7) rfl) x_VR_143 (by omega) (by omega) (by omega) (by simp [Value.category]) ?_
    refine v_athrow (am_Dk d_VR_refuseError (k := 8) rfl) ?_
    exact vt_leave (fun q hq => by cases hq) (by omega) (by omega) (Or.inr ⟨by assumption, rfl, rfl, rfl⟩)
set_option maxRecDepth 20000 in
theorem t_VR_refuseSomethingElse (G : am_G) {d nx : Nat} (hd : 6 ≤ d) {M : am_M} {pl er : Int32} (h0 : M 1000 = some (.inr (0, [.ref 1001, .ref 1003, .ref 1005, .int pl, .int er]))) {b : Bool} (hx : 1240 ≤ nx) : am_Tr G m_VR_refuseSomethingElse d 1 6 [.ref 1000, .int (bi b)] M nx (fun r M1 nx1 => (b = true ∧ r = .inl none ∧ M1 = M ∧ nx1 = nx) ∨ (b = false ∧ r = .inr nx ∧ M1 = am_up (am_up M 1000 (.inr (0, [.ref 1001, .ref 1003, .ref 1005, .int 0, .int er]))) nx (.inr (16, [])) ∧ nx1 = nx + 1)) := by
  refine am_TrOf (by decide) (Nat.le_of_ble_eq_true rfl) ?_
  show am_V G _ _ _ _ _ 0 [(0, .ref 1000), (1, .int (bi b))] [] M nx 0 0
  refine v_iload_n (am_Dk d_VR_refuseSomethingElse (k := 0) rfl) rfl ?_
  refine v_if_ne (tgt := 17) (am_Dk d_VR_refuseSomethingElse (k := 1) rfl) (by decide) (fun c1 => ?_) (fun c1 => ?_)
  · have Nc1 := bi1 c1
    exact v_return (am_Dk d_VR_refuseSomethingElse (k := 9) rfl) rfl (by omega) (by omega) (Or.inl ⟨by assumption, rfl, rfl, rfl⟩)
  · have Nc1 := bi0.mp c1
    refine v_aload_n (am_Dk d_VR_refuseSomethingElse (k := 2) rfl) rfl ?_
    refine v_iconst (v := 0) (am_Dk d_VR_refuseSomethingElse (k := 3) rfl) (by decide) ?_
    refine v_put (am_Dk d_VR_refuseSomethingElse (k := 4) rfl) f_VR_32 h0 (Nat.le_of_ble_eq_true rfl) rfl rfl ?_
    refine v_newX (am_Dk d_VR_refuseSomethingElse (k := 5) rfl) (am_Dk d_VR_refuseSomethingElse (k := 6) rfl) (am_Dk d_VR_refuseSomethingElse (k := 7) rfl) x_VR_140 (by omega) (by omega) (by omega) (by simp [Value.category]) ?_
    refine v_athrow (am_Dk d_VR_refuseSomethingElse (k := 8) rfl) ?_
    exact vt_leave (fun q hq => by cases hq) (by omega) (by omega) (Or.inr ⟨by assumption, rfl, rfl, rfl⟩)
set_option maxRecDepth 20000 in
theorem t_VR_finishReading (G : am_G) {d nx : Nat} (hd : 6 ≤ d) {M : am_M} {pl er : Int32} (h0 : M 1000 = some (.inr (0, [.ref 1001, .ref 1003, .ref 1005, .int pl, .int er]))) {ou : Nat} {dp du dn sy pc9 : Int32} (h5 : M 1005 = some (.inr (5, [.ref 1001, .ref 1003, .ref 1006, .ref 1007, .int dp, .int du, .int dn, .int sy, .int pc9, .ref ou, .ref 1208, .ref 1209, .ref 1210]))) {nn : Int32} (h1 : M 1001 = some (.inr (1, [.ref 1002, .int nn]))) (hx : 1240 ≤ nx) : am_Tr G m_VR_finishReading d 1 6 [.ref 1000] M nx (fun r M1 nx1 => (pc9 = -1 ∧ r = .inl none ∧ M1 = am_up (am_up M 1001 (.inr (1, [.ref 1002, .int 0]))) 1000 (.inr (0, [.ref 1001, .ref 1003, .ref 1005, .int pc9, .int 0])) ∧ nx1 = nx) ∨ (¬ pc9 = -1 ∧ r = .inr nx ∧ M1 = am_up (am_up (am_up M 1001 (.inr (1, [.ref 1002, .int 0]))) 1000 (.inr (0, [.ref 1001, .ref 1003, .ref 1005, .int pc9, .int 0]))) nx (.inr (16, [])) ∧ nx1 = nx + 1)) := by
  refine am_TrOf (by decide) (Nat.le_of_ble_eq_true rfl) ?_
  show am_V G _ _ _ _ _ 0 [(0, .ref 1000)] [] M nx 0 0
  refine v_aload_n (am_Dk d_VR_finishReading (k := 0) rfl) rfl ?_
  refine v_get (am_Dk d_VR_finishReading (k := 1) rfl) f_VR_10 h0 rfl ?_
  refine v_iconst (v := 0) (am_Dk d_VR_finishReading (k := 2) rfl) (by decide) ?_
  refine v_put (am_Dk d_VR_finishReading (k := 3) rfl) f_VR_39 h1 (Nat.le_of_ble_eq_true rfl) rfl rfl ?_
  refine v_aload_n (am_Dk d_VR_finishReading (k := 4) rfl) rfl ?_
  refine v_aload_n (am_Dk d_VR_finishReading (k := 5) rfl) rfl ?_
  have m1 : (am_up M 1001 (.inr (1, [.ref 1002, .int 0]))) 1000 = some (.inr (0, [.ref 1001, .ref 1003, .ref 1005, .int pl, .int er])) := (am_up_ne (show 1000 ≠ 1001 from by decide)).trans (h0)
  refine v_get (am_Dk d_VR_finishReading (k := 6) rfl) f_VR_28 m1 rfl ?_
  have m2 : (am_up M 1001 (.inr (1, [.ref 1002, .int 0]))) 1005 = some (.inr (5, [.ref 1001, .ref 1003, .ref 1006, .ref 1007, .int dp, .int du, .int dn, .int sy, .int pc9, .ref ou, .ref 1208, .ref 1209, .ref 1210])) := (am_up_ne (show 1005 ≠ 1001 from by decide)).trans (h5)
  refine v_get (am_Dk d_VR_finishReading (k := 7) rfl) f_VR_139 m2 rfl ?_
  refine v_put (am_Dk d_VR_finishReading (k := 8) rfl) f_VR_32 m1 (Nat.le_of_ble_eq_true rfl) rfl rfl ?_
  refine v_aload_n (am_Dk d_VR_finishReading (k := 9) rfl) rfl ?_
  refine v_iconst (v := 0) (am_Dk d_VR_finishReading (k := 10) rfl) (by decide) ?_
  have m3 : (am_up (am_up M 1001 (.inr (1, [.ref 1002, .int 0]))) 1000 (.inr (0, [.ref 1001, .ref 1003, .ref 1005, .int pc9, .int er]))) 1000 = some (.inr (0, [.ref 1001, .ref 1003, .ref 1005, .int pc9, .int er])) := am_up_eq _ _ _
  refine v_put (am_Dk d_VR_finishReading (k := 11) rfl) f_VR_36 m3 (Nat.le_of_ble_eq_true rfl) rfl rfl ?_
  rw [am_uu0 (a := 1000)]
  refine v_aload_n (am_Dk d_VR_finishReading (k := 12) rfl) rfl ?_
  have m4 : (am_up (am_up M 1001 (.inr (1, [.ref 1002, .int 0]))) 1000 (.inr (0, [.ref 1001, .ref 1003, .ref 1005, .int pc9, .int 0]))) 1000 = some (.inr (0, [.ref 1001, .ref 1003, .ref 1005, .int pc9, .int 0])) := am_up_eq _ _ _
  refine v_get (am_Dk d_VR_finishReading (k := 13) rfl) f_VR_32 m4 rfl ?_
  refine v_iconst (v := (-1)) (am_Dk d_VR_finishReading (k := 14) rfl) (by decide) ?_
  refine v_icmp_eq (tgt := 40) (am_Dk d_VR_finishReading (k := 15) rfl) (by decide) (fun c5 => ?_) (fun c5 => ?_)
  · exact v_return (am_Dk d_VR_finishReading (k := 20) rfl) rfl (by omega) (by omega) (Or.inl ⟨by assumption, rfl, rfl, rfl⟩)
  · refine v_newX (am_Dk d_VR_finishReading (k := 16) rfl) (am_Dk d_VR_finishReading (k := 17) rfl) (am_Dk d_VR_finishReading (k := 18) rfl) x_VR_140 (by omega) (by omega) (by omega) (by simp [Value.category]) ?_
    refine v_athrow (am_Dk d_VR_finishReading (k := 19) rfl) ?_
    exact vt_leave (fun q hq => by cases hq) (by omega) (by omega) (Or.inr ⟨by assumption, rfl, rfl, rfl⟩)
set_option maxRecDepth 20000 in
theorem t_VR_count (G : am_G) {d nx : Nat} (hd : 6 ≤ d) {M : am_M} {pl er : Int32} (h0 : M 1000 = some (.inr (0, [.ref 1001, .ref 1003, .ref 1005, .int pl, .int er]))) {nn k : Int32} (h1 : M 1001 = some (.inr (1, [.ref 1002, .int nn]))) (hx : 1240 ≤ nx) : am_Tr G m_VR_count d 1 6 [.ref 1000, .int k] M nx (fun r M1 nx1 => ((k = 0 ∧ r = .inl (some (.int nn)) ∧ M1 = M ∧ nx1 = nx) ∨ (k = 1 ∧ r = .inl (some (.int pl)) ∧ M1 = M ∧ nx1 = nx) ∨ (k = 2 ∧ r = .inl (some (.int er)) ∧ M1 = M ∧ nx1 = nx)) ∨ ((¬ k = 0 ∧ ¬ k = 1 ∧ ¬ k = 2) ∧ r = .inr nx ∧ M1 = am_up M nx (.inr (14, [])) ∧ nx1 = nx + 1)) := by
  refine am_TrOf (by decide) (Nat.le_of_ble_eq_true rfl) ?_
  show am_V G _ _ _ _ _ 0 [(0, .ref 1000), (1, .int k)] [] M nx 0 0
  refine v_iload_n (am_Dk d_VR_count (k := 0) rfl) rfl ?_
  by_cases e0 : k = 0
  · refine v_tableIn (tgt := 28) (off := 27) (am_Dk d_VR_count (k := 1) rfl) (by rw [e0]; decide) (by rw [e0]; decide) (by rw [e0]; decide) (by decide) ?_
    refine v_aload_n (am_Dk d_VR_count (k := 2) rfl) rfl ?_
    refine v_get (am_Dk d_VR_count (k := 3) rfl) f_VR_10 h0 rfl ?_
    refine v_get (am_Dk d_VR_count (k := 4) rfl) f_VR_39 h1 rfl ?_
    exact v_ireturn (am_Dk d_VR_count (k := 5) rfl) rfl rfl (by omega) (by omega) (Or.inl (Or.inl ⟨by assumption, rfl, rfl, rfl⟩))
  by_cases e1 : k = 1
  · refine v_tableIn (tgt := 36) (off := 35) (am_Dk d_VR_count (k := 1) rfl) (by rw [e1]; decide) (by rw [e1]; decide) (by rw [e1]; decide) (by decide) ?_
    refine v_aload_n (am_Dk d_VR_count (k := 6) rfl) rfl ?_
    refine v_get (am_Dk d_VR_count (k := 7) rfl) f_VR_32 h0 rfl ?_
    exact v_ireturn (am_Dk d_VR_count (k := 8) rfl) rfl rfl (by omega) (by omega) (Or.inl (Or.inr (Or.inl ⟨by assumption, rfl, rfl, rfl⟩)))
  by_cases e2 : k = 2
  · refine v_tableIn (tgt := 41) (off := 40) (am_Dk d_VR_count (k := 1) rfl) (by rw [e2]; decide) (by rw [e2]; decide) (by rw [e2]; decide) (by decide) ?_
    refine v_aload_n (am_Dk d_VR_count (k := 9) rfl) rfl ?_
    refine v_get (am_Dk d_VR_count (k := 10) rfl) f_VR_36 h0 rfl ?_
    exact v_ireturn (am_Dk d_VR_count (k := 11) rfl) rfl rfl (by omega) (by omega) (Or.inl (Or.inr (Or.inr ⟨by assumption, rfl, rfl, rfl⟩)))
  have hne : ¬ k = 0 ∧ ¬ k = 1 ∧ ¬ k = 2 := ⟨e0, e1, e2⟩
  refine v_tableOut (tgt := 46) (am_Dk d_VR_count (k := 1) rfl) (by simp only [i32eq] at e0 e1 e2; have z0 : (0 : Int32).toInt = 0 := (by decide); have z1 : (1 : Int32).toInt = 1 := (by decide); have z2 : (2 : Int32).toInt = 2 := (by decide); omega) (by decide) ?_
  refine v_newX (am_Dk d_VR_count (k := 12) rfl) (am_Dk d_VR_count (k := 13) rfl) (am_Dk d_VR_count (k := 14) rfl) x_VR_49 (by omega) (by omega) (by omega) (by simp [Value.category]) ?_
  refine v_athrow (am_Dk d_VR_count (k := 15) rfl) ?_
  exact vt_leave (fun q hq => by cases hq) (by omega) (by omega) (Or.inr ⟨by assumption, rfl, rfl, rfl⟩)
set_option maxRecDepth 20000 in
theorem t_jA_size (G : am_G) {d nx : Nat} (hd : 0 ≤ d) {M : am_M} {el : Value} {mcn sz : Int32} (h4 : M 1004 = some (.inr (3, [.int mcn, el, .int sz]))) : am_Tr G m_jA_size d 0 0 [.ref 1004] M nx (fun r M1 nx1 => r = .inl (some (.int sz)) ∧ M1 = M ∧ nx1 = nx) := by
  refine am_TrOf (by decide) (Nat.le_of_ble_eq_true rfl) ?_
  show am_V G _ _ _ _ _ 0 [(0, .ref 1004)] [] M nx 0 0
  refine v_aload_n (am_Dk d_jA_size (k := 0) rfl) rfl ?_
  refine v_get (am_Dk d_jA_size (k := 1) rfl) f_jA_48 h4 rfl ?_
  exact v_ireturn (am_Dk d_jA_size (k := 2) rfl) rfl rfl (by omega) (by omega) ⟨rfl, rfl, rfl⟩
