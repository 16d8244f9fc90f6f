/-! CONSTRUCTORS OF THE CLASS (mine; rows laid by the walker) -/
theorem am_ac_byte : am_has (.arrayClass .byte) := (am_at (k := 64) (by decide +kernel) (by decide +kernel))
theorem am_ac_int : am_has (.arrayClass .int) := (am_at (k := 985) (by decide +kernel) (by decide +kernel))
theorem am_ac_long : am_has (.arrayClass .long) := (am_at (k := 986) (by decide +kernel) (by decide +kernel))
theorem am_uu0 {M : am_M} {a : Nat} {p r : am_O} : am_up (am_up M a p) a r = am_up M a r := by
  funext i
  by_cases h : (i == a) = true
  · simp [am_up, h]
  · have h : (i == a) = false := by simpa using h
    simp [am_up, h]
theorem am_uu1 {M : am_M} {a : Nat} {p r : am_O} {b0 : Nat} {q0 : am_O} : am_up (am_up (am_up M a p) b0 q0) a r = am_up (am_up M b0 q0) a r := by
  funext i
  by_cases h : (i == a) = true
  · simp [am_up, h]
  · have h : (i == a) = false := by simpa using h
    simp [am_up, h]
theorem am_uu2 {M : am_M} {a : Nat} {p r : am_O} {b0 b1 : Nat} {q0 q1 : am_O} : am_up (am_up (am_up (am_up M a p) b0 q0) b1 q1) a r = am_up (am_up (am_up M b0 q0) b1 q1) a r := by
  funext i
  by_cases h : (i == a) = true
  · simp [am_up, h]
  · have h : (i == a) = false := by simpa using h
    simp [am_up, h]
theorem am_uu3 {M : am_M} {a : Nat} {p r : am_O} {b0 b1 b2 : Nat} {q0 q1 q2 : am_O} : am_up (am_up (am_up (am_up (am_up M a p) b0 q0) b1 q1) b2 q2) a r = am_up (am_up (am_up (am_up M b0 q0) b1 q1) b2 q2) a r := by
  funext i
  by_cases h : (i == a) = true
  · simp [am_up, h]
  · have h : (i == a) = false := by simpa using h
    simp [am_up, h]
theorem am_uu4 {M : am_M} {a : Nat} {p r : am_O} {b0 b1 b2 b3 : Nat} {q0 q1 q2 q3 : am_O} : am_up (am_up (am_up (am_up (am_up (am_up M a p) b0 q0) b1 q1) b2 q2) b3 q3) a r = am_up (am_up (am_up (am_up (am_up M b0 q0) b1 q1) b2 q2) b3 q3) a r := by
  funext i
  by_cases h : (i == a) = true
  · simp [am_up, h]
  · have h : (i == a) = false := by simpa using h
    simp [am_up, h]
theorem am_uu5 {M : am_M} {a : Nat} {p r : am_O} {b0 b1 b2 b3 b4 : Nat} {q0 q1 q2 q3 q4 : am_O} : am_up (am_up (am_up (am_up (am_up (am_up (am_up M a p) b0 q0) b1 q1) b2 q2) b3 q3) b4 q4) a r = am_up (am_up (am_up (am_up (am_up (am_up M b0 q0) b1 q1) b2 q2) b3 q3) b4 q4) a r := by
  funext i
  by_cases h : (i == a) = true
  · simp [am_up, h]
  · have h : (i == a) = false := by simpa using h
    simp [am_up, h]
theorem am_uu6 {M : am_M} {a : Nat} {p r : am_O} {b0 b1 b2 b3 b4 b5 : Nat} {q0 q1 q2 q3 q4 q5 : am_O} : am_up (am_up (am_up (am_up (am_up (am_up (am_up (am_up M a p) b0 q0) b1 q1) b2 q2) b3 q3) b4 q4) b5 q5) a r = am_up (am_up (am_up (am_up (am_up (am_up (am_up M b0 q0) b1 q1) b2 q2) b3 q3) b4 q4) b5 q5) a r := by
  funext i
  by_cases h : (i == a) = true
  · simp [am_up, h]
  · have h : (i == a) = false := by simpa using h
    simp [am_up, h]
theorem f_jB_7 : am_F "java/util/AbstractList" 7 3 0 .int false := ⟨_, _, _, _, "java/util/AbstractList", cq_ok3, by decide, rfl, rfl, Or.inl (am_at (k := 87) (by decide +kernel) (by decide +kernel)), Or.inl rfl, fun h => by cases h⟩
set_option maxRecDepth 20000 in
theorem t_Op_init (G : am_G) {d nx : Nat} (hd : 1 ≤ d) {M : am_M} {a : Nat} : am_Tr G m_Op_init d 0 0 [.ref a] M nx (fun r M1 nx1 => r = .inl none ∧ M1 = M ∧ nx1 = nx) := by
  refine am_TrOf (by decide) (Nat.le_of_ble_eq_true rfl) ?_
  show am_V G _ _ _ _ _ 0 [(0, .ref a)] [] M nx 0 0
  refine v_aload_n (am_Dk d_Op_init (k := 0) rfl) rfl ?_
  refine v_objInit (am_Dk d_Op_init (k := 1) rfl) o_Op_3 (by omega) (by simp [Value.category]) ?_
  exact v_return (am_Dk d_Op_init (k := 2) rfl) rfl (by omega) (by omega) ⟨rfl, rfl, rfl⟩
set_option maxRecDepth 20000 in
theorem t_OT_init (G : am_G) {d nx : Nat} (hd : 2 ≤ d) {M : am_M} {a : Nat} {x0 x1 : Value} {x2 x3 x4 : Int32} (ha : a < nx) (hM : M a = some (.inr (7, [x0, x1, .int x2, .int x3, .int x4, .null]))) : am_Tr G m_OT_init d 1 4 [.ref a] M nx (fun r M1 nx1 => r = .inl none ∧ M1 = am_up (am_up M nx (.inr (8, [.int 0, .long 0, .int 0, .int 0]))) a (.inr (7, [.ref 38, .ref 0, .int x2, .int x3, .int x4, .ref nx])) ∧ nx1 = nx + 1) := by
  refine am_TrOf (by decide) (Nat.le_of_ble_eq_true rfl) ?_
  show am_V G _ _ _ _ _ 0 [(0, .ref a)] [] M nx 0 0
  refine v_aload_n (am_Dk d_OT_init (k := 0) rfl) rfl ?_
  refine v_objInit (am_Dk d_OT_init (k := 1) rfl) o_OT_1 (by omega) (by simp [Value.category]) ?_
  refine v_aload_n (am_Dk d_OT_init (k := 2) rfl) rfl ?_
  refine v_new (fs := [.int 0, .long 0, .int 0, .int 0]) (am_Dk d_OT_init (k := 3) rfl) cq_ok8 n_OT_7 i_Op.1 i_Op.2 (by decide) rfl (by omega) (by omega) ?_
  refine v_dup (am_Dk d_OT_init (k := 4) rfl) rfl ?_
  refine v_callI (rest := [.ref nx, .ref a]) (As := []) (mc' := 0) (ms' := 0) (am_Dk d_OT_init (k := 5) rfl) c_OT_9 (t_Op_init G (d := 1) (by decide) (a := nx)) (by omega) (by omega) (by omega) (by simp [Value.category]) rfl (fun v1 M2 n3 h4 => ?_) (fun _ _ _ h4 => ?_)
  rotate_left
  · exact absurd h4.1 (by simp)
  obtain ⟨h4, e5, e6⟩ := h4
  replace e5 := e5.symm
  replace e6 := e6.symm
  subst e5
  subst e6
  cases h4
  show am_V G _ _ _ _ _ 12 [(0, .ref a)] [.ref nx, .ref a] (am_up M nx (.inr (8, [.int 0, .long 0, .int 0, .int 0]))) (nx + 1) 1 4
  have m7 : (am_up M nx (.inr (8, [.int 0, .long 0, .int 0, .int 0]))) a = some (.inr (7, [x0, x1, .int x2, .int x3, .int x4, .null])) := (am_up_ne (show a ≠ nx from by intro e9; subst e9; simp_all)).trans (hM)
  refine v_putF (am_Dk d_OT_init (k := 6) rfl) f_OT_10 rfl m7 (Nat.le_of_ble_eq_true rfl) rfl rfl ?_
  refine v_aload_n (am_Dk d_OT_init (k := 7) rfl) rfl ?_
  refine v_gets (v := .ref 38) (am_Dk d_OT_init (k := 8) rfl) s_OT_16 (by decide +kernel) ?_
  have m8 : (am_up (am_up M nx (.inr (8, [.int 0, .long 0, .int 0, .int 0]))) a (.inr (7, [x0, x1, .int x2, .int x3, .int x4, .ref nx]))) a = some (.inr (7, [x0, x1, .int x2, .int x3, .int x4, .ref nx])) := am_up_eq _ _ _
  refine v_put (am_Dk d_OT_init (k := 9) rfl) f_OT_22 m8 (Nat.le_of_ble_eq_true rfl) rfl rfl ?_
  rw [am_uu0]
  refine v_aload_n (am_Dk d_OT_init (k := 10) rfl) rfl ?_
  refine v_gets (v := .ref 0) (am_Dk d_OT_init (k := 11) rfl) s_OT_25 (by decide +kernel) ?_
  have m9 : (am_up (am_up M nx (.inr (8, [.int 0, .long 0, .int 0, .int 0]))) a (.inr (7, [.ref 38, x1, .int x2, .int x3, .int x4, .ref nx]))) a = some (.inr (7, [.ref 38, x1, .int x2, .int x3, .int x4, .ref nx])) := am_up_eq _ _ _
  refine v_put (am_Dk d_OT_init (k := 12) rfl) f_OT_31 m9 (Nat.le_of_ble_eq_true rfl) rfl rfl ?_
  rw [am_uu0]
  exact v_return (am_Dk d_OT_init (k := 13) rfl) rfl (by omega) (by omega) ⟨rfl, rfl, rfl⟩
set_option maxRecDepth 20000 in
theorem t_Tape_init (G : am_G) {d nx : Nat} (hd : 1 ≤ d) {M : am_M} {a : Nat} (ha : a < nx) (hM : M a = some (.inr (1, [.null, .int 0]))) : am_Tr G m_Tape_init d 1 4096 [.ref a] M nx (fun r M1 nx1 => r = .inl none ∧ M1 = am_up (am_up M nx (.inl (0, 4096, .inl (fun _ => 0)))) a (.inr (1, [.ref nx, .int 0])) ∧ nx1 = nx + 1) := by
  refine am_TrOf (by decide) (Nat.le_of_ble_eq_true rfl) ?_
  show am_V G _ _ _ _ _ 0 [(0, .ref a)] [] M nx 0 0
  refine v_aload_n (am_Dk d_Tape_init (k := 0) rfl) rfl ?_
  refine v_objInit (am_Dk d_Tape_init (k := 1) rfl) o_Tape_3 (by omega) (by simp [Value.category]) ?_
  refine v_aload_n (am_Dk d_Tape_init (k := 2) rfl) rfl ?_
  refine v_sipush (v := 4096) (am_Dk d_Tape_init (k := 3) rfl) (by decide) ?_
  refine v_new_byte (N := 4096) (am_Dk d_Tape_init (k := 4) rfl) am_ac_byte (by decide) (by decide) (by decide) (by omega) (by omega) ?_
  have m1 : (am_up M nx (.inl (0, 4096, .inl (fun _ => 0)))) a = some (.inr (1, [.null, .int 0])) := (am_up_ne (show a ≠ nx from by intro e9; subst e9; simp_all)).trans (hM)
  refine v_putF (am_Dk d_Tape_init (k := 5) rfl) f_Tape_9 rfl m1 (Nat.le_of_ble_eq_true rfl) rfl rfl ?_
  exact v_return (am_Dk d_Tape_init (k := 6) rfl) rfl (by omega) (by omega) ⟨rfl, rfl, rfl⟩
set_option maxRecDepth 20000 in
theorem t_jC_init (G : am_G) {d nx : Nat} (hd : 1 ≤ d) {M : am_M} {a : Nat} : am_Tr G m_jC_init d 0 0 [.ref a] M nx (fun r M1 nx1 => r = .inl none ∧ M1 = M ∧ nx1 = nx) := by
  refine am_TrOf (by decide) (Nat.le_of_ble_eq_true rfl) ?_
  show am_V G _ _ _ _ _ 0 [(0, .ref a)] [] M nx 0 0
  refine v_aload_n (am_Dk d_jC_init (k := 0) rfl) rfl ?_
  refine v_objInit (am_Dk d_jC_init (k := 1) rfl) o_jC_1 (by omega) (by simp [Value.category]) ?_
  exact v_return (am_Dk d_jC_init (k := 2) rfl) rfl (by omega) (by omega) ⟨rfl, rfl, rfl⟩
set_option maxRecDepth 20000 in
theorem t_jB_init (G : am_G) {d nx : Nat} (hd : 2 ≤ d) {M : am_M} {a : Nat} {e1 : Value} {n2 : Int32} (hM : M a = some (.inr (3, [.int 0, e1, .int n2]))) : am_Tr G m_jB_init d 0 0 [.ref a] M nx (fun r M1 nx1 => r = .inl none ∧ M1 = am_up M a (.inr (3, [.int 0, e1, .int n2])) ∧ nx1 = nx) := by
  refine am_TrOf (by decide) (Nat.le_of_ble_eq_true rfl) ?_
  show am_V G _ _ _ _ _ 0 [(0, .ref a)] [] M nx 0 0
  refine v_aload_n (am_Dk d_jB_init (k := 0) rfl) rfl ?_
  refine v_callI (rest := []) (As := []) (mc' := 0) (ms' := 0) (am_Dk d_jB_init (k := 1) rfl) c_jB_1 (t_jC_init G (d := 1) (by decide) (a := a)) (by omega) (by omega) (by omega) (by simp [Value.category]) rfl (fun v1 M2 n3 h4 => ?_) (fun _ _ _ h4 => ?_)
  rotate_left
  · exact absurd h4.1 (by simp)
  obtain ⟨h4, e5, e6⟩ := h4
  replace e5 := e5.symm
  replace e6 := e6.symm
  subst e5
  subst e6
  cases h4
  show am_V G _ _ _ _ _ 4 [(0, .ref a)] [] M nx 0 0
  refine v_aload_n (am_Dk d_jB_init (k := 2) rfl) rfl ?_
  refine v_iconst (v := 0) (am_Dk d_jB_init (k := 3) rfl) (by decide) ?_
  refine v_put (am_Dk d_jB_init (k := 4) rfl) f_jB_7 hM (Nat.le_of_ble_eq_true rfl) rfl rfl ?_
  exact v_return (am_Dk d_jB_init (k := 5) rfl) rfl (by omega) (by omega) ⟨rfl, rfl, rfl⟩
set_option maxRecDepth 20000 in
theorem t_jA_init (G : am_G) {d nx : Nat} (hd : 3 ≤ d) {M : am_M} {a : Nat} (hM : M a = some (.inr (3, [.int 0, .null, .int 0]))) : am_Tr G m_jA_init d 0 0 [.ref a] M nx (fun r M1 nx1 => r = .inl none ∧ M1 = am_up M a (.inr (3, [.int 0, .ref 54, .int 0])) ∧ nx1 = nx) := by
  refine am_TrOf (by decide) (Nat.le_of_ble_eq_true rfl) ?_
  show am_V G _ _ _ _ _ 0 [(0, .ref a)] [] M nx 0 0
  refine v_aload_n (am_Dk d_jA_init (k := 0) rfl) rfl ?_
  refine v_callI (rest := []) (As := []) (mc' := 0) (ms' := 0) (am_Dk d_jA_init (k := 1) rfl) c_jA_1 (t_jB_init G (d := 2) (by decide) hM) (by omega) (by omega) (by omega) (by simp [Value.category]) rfl (fun v1 M2 n3 h4 => ?_) (fun _ _ _ h4 => ?_)
  rotate_left
  · exact absurd h4.1 (by simp)
  obtain ⟨h4, e5, e6⟩ := h4
  replace e5 := e5.symm
  replace e6 := e6.symm
  subst e5
  subst e6
  cases h4
  show am_V G _ _ _ _ _ 4 [(0, .ref a)] [] (am_up M a (.inr (3, [.int 0, .null, .int 0]))) nx 0 0
  refine v_aload_n (am_Dk d_jA_init (k := 2) rfl) rfl ?_
  refine v_gets (v := .ref 54) (am_Dk d_jA_init (k := 3) rfl) s_jA_39 (by decide +kernel) ?_
  have m7 : (am_up M a (.inr (3, [.int 0, .null, .int 0]))) a = some (.inr (3, [.int 0, .null, .int 0])) := am_up_eq _ _ _
  refine v_put (am_Dk d_jA_init (k := 4) rfl) f_jA_9 m7 (Nat.le_of_ble_eq_true rfl) rfl rfl ?_
  rw [am_uu0]
  exact v_return (am_Dk d_jA_init (k := 5) rfl) rfl (by omega) (by omega) ⟨rfl, rfl, rfl⟩
set_option maxRecDepth 20000 in
theorem t_Vars_init (G : am_G) {d nx : Nat} (hd : 4 ≤ d) {M : am_M} {a : Nat} (ha : a < nx) (hM : M a = some (.inr (2, [.null]))) : am_Tr G m_Vars_init d 1 3 [.ref a] M nx (fun r M1 nx1 => r = .inl none ∧ M1 = am_up (am_up M nx (.inr (3, [.int 0, .ref 54, .int 0]))) a (.inr (2, [.ref nx])) ∧ nx1 = nx + 1) := by
  refine am_TrOf (by decide) (Nat.le_of_ble_eq_true rfl) ?_
  show am_V G _ _ _ _ _ 0 [(0, .ref a)] [] M nx 0 0
  refine v_aload_n (am_Dk d_Vars_init (k := 0) rfl) rfl ?_
  refine v_objInit (am_Dk d_Vars_init (k := 1) rfl) o_Vars_3 (by omega) (by simp [Value.category]) ?_
  refine v_aload_n (am_Dk d_Vars_init (k := 2) rfl) rfl ?_
  refine v_new (fs := [.int 0, .null, .int 0]) (am_Dk d_Vars_init (k := 3) rfl) cq_ok3 n_Vars_9 i_jA.1 i_jA.2 (by decide) rfl (by omega) (by omega) ?_
  refine v_dup (am_Dk d_Vars_init (k := 4) rfl) rfl ?_
  have m1 : (am_up M nx (.inr (3, [.int 0, .null, .int 0]))) nx = some (.inr (3, [.int 0, .null, .int 0])) := am_up_eq _ _ _
  refine v_callI (rest := [.ref nx, .ref a]) (As := []) (mc' := 0) (ms' := 0) (am_Dk d_Vars_init (k := 5) rfl) c_Vars_11 (t_jA_init G (d := 3) (by decide) m1) (by omega) (by omega) (by omega) (by simp [Value.category]) rfl (fun v2 M3 n4 h5 => ?_) (fun _ _ _ h5 => ?_)
  rotate_left
  · exact absurd h5.1 (by simp)
  obtain ⟨h5, e6, e7⟩ := h5
  replace e6 := e6.symm
  replace e7 := e7.symm
  subst e6
  subst e7
  cases h5
  rw [am_uu0]
  show am_V G _ _ _ _ _ 12 [(0, .ref a)] [.ref nx, .ref a] (am_up M nx (.inr (3, [.int 0, .ref 54, .int 0]))) (nx + 1) 1 3
  have m8 : (am_up M nx (.inr (3, [.int 0, .ref 54, .int 0]))) a = some (.inr (2, [.null])) := (am_up_ne (show a ≠ nx from by intro e9; subst e9; simp_all)).trans (hM)
  refine v_putF (am_Dk d_Vars_init (k := 6) rfl) f_Vars_12 rfl m8 (Nat.le_of_ble_eq_true rfl) rfl rfl ?_
  exact v_return (am_Dk d_Vars_init (k := 7) rfl) rfl (by omega) (by omega) ⟨rfl, rfl, rfl⟩
set_option maxRecDepth 20000 in
theorem t_Sg_init (G : am_G) {d nx : Nat} (hd : 1 ≤ d) {M : am_M} {a t : Nat} (hM : M a = some (.inr (6, [.null, .null, .int 0, .int 0, .long 0, .null, .int 0, .int 0]))) : am_Tr G m_Sg_init d 0 0 [.ref a, .ref t] M nx (fun r M1 nx1 => r = .inl none ∧ M1 = am_up M a (.inr (6, [.ref t, .ref 36, .int 0, .int 0, .long 0, .ref 0, .int 0, .int 0])) ∧ nx1 = nx) := by
  refine am_TrOf (by decide) (Nat.le_of_ble_eq_true rfl) ?_
  show am_V G _ _ _ _ _ 0 [(0, .ref a), (1, .ref t)] [] M nx 0 0
  refine v_aload_n (am_Dk d_Sg_init (k := 0) rfl) rfl ?_
  refine v_objInit (am_Dk d_Sg_init (k := 1) rfl) o_Sg_3 (by omega) (by simp [Value.category]) ?_
  refine v_aload_n (am_Dk d_Sg_init (k := 2) rfl) rfl ?_
  refine v_aload_n (am_Dk d_Sg_init (k := 3) rfl) rfl ?_
  refine v_putF (am_Dk d_Sg_init (k := 4) rfl) f_Sg_9 rfl hM (Nat.le_of_ble_eq_true rfl) rfl rfl ?_
  refine v_aload_n (am_Dk d_Sg_init (k := 5) rfl) rfl ?_
  refine v_gets (v := .ref 36) (am_Dk d_Sg_init (k := 6) rfl) s_Sg_15 (by decide +kernel) ?_
  have m1 : (am_up M a (.inr (6, [.ref t, .null, .int 0, .int 0, .long 0, .null, .int 0, .int 0]))) a = some (.inr (6, [.ref t, .null, .int 0, .int 0, .long 0, .null, .int 0, .int 0])) := am_up_eq _ _ _
  refine v_put (am_Dk d_Sg_init (k := 7) rfl) f_Sg_21 m1 (Nat.le_of_ble_eq_true rfl) rfl rfl ?_
  rw [am_uu0]
  refine v_aload_n (am_Dk d_Sg_init (k := 8) rfl) rfl ?_
  refine v_gets (v := .ref 0) (am_Dk d_Sg_init (k := 9) rfl) s_Sg_24 (by decide +kernel) ?_
  have m2 : (am_up M a (.inr (6, [.ref t, .ref 36, .int 0, .int 0, .long 0, .null, .int 0, .int 0]))) a = some (.inr (6, [.ref t, .ref 36, .int 0, .int 0, .long 0, .null, .int 0, .int 0])) := am_up_eq _ _ _
  refine v_put (am_Dk d_Sg_init (k := 10) rfl) f_Sg_30 m2 (Nat.le_of_ble_eq_true rfl) rfl rfl ?_
  rw [am_uu0]
  exact v_return (am_Dk d_Sg_init (k := 11) rfl) rfl (by omega) (by omega) ⟨rfl, rfl, rfl⟩
