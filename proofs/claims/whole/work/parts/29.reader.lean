/-! THE CLASS'S READER, SMALL METHODS (mine; rows laid by the walker) -/
theorem ci_at {j : Nat} (h : j < 100) : va_rf (ci_arr 100 (nI j).toNatClampNeg) = .ref (2 * j + 1008) := by
  rw [nI_clamp (n := j) (by omega)]
  simp [ci_arr, h, va_rf]
def cbn (m : Int32) (k : Nat) (e1 : Int32) (v1 : Int64) (e : Int32) (v : Int64) : Int32 × Int64 := if m = 1 then rk1 k e v else if m = 2 then rk2 k e1 v1 e v else (2, 0)
set_option maxRecDepth 20000 in
theorem t_Rd_breakHere (G : am_G) {d nx : Nat} (hd : 0 ≤ d) {M : am_M} {ou : Nat} {dp du dn sy pc9 : Int32} (h5 : M 1005 = some (.inr (5, [.ref 1001, .ref 1003, .ref 1006, .ref 1007, .int dp, .int du, .int dn, .int sy, .int pc9, .ref ou, .ref 1208, .ref 1209, .ref 1210]))) {kd nm : Nat} {pl af nf nt : Int32} {nu : Int64} (h6 : M 1006 = some (.inr (6, [.ref 1001, .ref kd, .int pl, .int af, .long nu, .ref nm, .int nf, .int nt]))) : am_Tr G m_Rd_breakHere d 0 0 [.ref 1005] M nx (fun r M1 nx1 => r = .inl none ∧ M1 = am_up M 1005 (.inr (5, [.ref 1001, .ref 1003, .ref 1006, .ref 1007, .int dp, .int du, .int dn, .int sy, .int pl, .ref ou, .ref 1208, .ref 1209, .ref 1210])) ∧ nx1 = nx) := by
  refine am_TrOf (by decide) (Nat.le_of_ble_eq_true rfl) ?_
  show am_V G _ _ _ _ _ 0 [(0, .ref 1005)] [] M nx 0 0
  refine v_aload_n (am_Dk d_Rd_breakHere (k := 0) rfl) rfl ?_
  refine v_aload_n (am_Dk d_Rd_breakHere (k := 1) rfl) rfl ?_
  refine v_get (am_Dk d_Rd_breakHere (k := 2) rfl) f_Rd_24 h5 rfl ?_
  refine v_get (am_Dk d_Rd_breakHere (k := 3) rfl) f_Rd_74 h6 rfl ?_
  refine v_put (am_Dk d_Rd_breakHere (k := 4) rfl) f_Rd_68 h5 (Nat.le_of_ble_eq_true rfl) rfl rfl ?_
  exact v_return (am_Dk d_Rd_breakHere (k := 5) rfl) rfl (by omega) (by omega) ⟨rfl, rfl, rfl⟩
set_option maxRecDepth 20000 in
theorem t_Rd_innermost (G : am_G) {d nx : Nat} (hd : 0 ≤ d) {M : am_M} {j : Nat} (hj : j < 100) {ou : Nat} {dp du dn sy pc9 : Int32} (h5 : M 1005 = some (.inr (5, [.ref 1001, .ref 1003, .ref 1006, .ref 1007, .int (nI (j + 1)), .int du, .int dn, .int sy, .int pc9, .ref ou, .ref 1208, .ref 1209, .ref 1210]))) (h7 : M 1007 = some (.inl (4, 100, .inr (.inr (.inr (.inr (ci_arr 100))))))) : am_Tr G m_Rd_innermost d 0 0 [.ref 1005] M nx (fun r M1 nx1 => r = .inl (some (.ref (2 * j + 1008))) ∧ M1 = M ∧ nx1 = nx) := by
  refine am_TrOf (by decide) (Nat.le_of_ble_eq_true rfl) ?_
  show am_V G _ _ _ _ _ 0 [(0, .ref 1005)] [] M nx 0 0
  refine v_aload_n (am_Dk d_Rd_innermost (k := 0) rfl) rfl ?_
  refine v_get (am_Dk d_Rd_innermost (k := 1) rfl) f_Rd_30 h5 rfl ?_
  refine v_aload_n (am_Dk d_Rd_innermost (k := 2) rfl) rfl ?_
  refine v_get (am_Dk d_Rd_innermost (k := 3) rfl) f_Rd_57 h5 rfl ?_
  refine v_if_le (tgt := 20) (am_Dk d_Rd_innermost (k := 4) rfl) (by decide) (fun c1 => ?_) (fun c1 => ?_)
  · have Nc1 := (nI_leI (a := j + 1) (b := 0) (by omega) (by omega)).mp c1
    exfalso
    omega
  · have Nc1 : ¬ (j + 1) ≤ 0 := fun z => c1 ((nI_leI (a := j + 1) (b := 0) (by omega) (by omega)).mpr z)
    refine v_aload_n (am_Dk d_Rd_innermost (k := 5) rfl) rfl ?_
    refine v_get (am_Dk d_Rd_innermost (k := 6) rfl) f_Rd_57 h5 rfl ?_
    refine v_iconst (v := 1) (am_Dk d_Rd_innermost (k := 7) rfl) (by decide) ?_
    refine v_isub (am_Dk d_Rd_innermost (k := 8) rfl) ?_
    rw [nI_pred]
    refine v_goto (tgt := 21) (am_Dk d_Rd_innermost (k := 9) rfl) (by decide) ?_
    refine v_aald (v := .ref (2 * j + 1008)) (am_Dk d_Rd_innermost (k := 11) rfl) h7 rfl (nI_in100 (by omega)) (ci_at (by omega)) ?_
    exact v_areturn (am_Dk d_Rd_innermost (k := 12) rfl) rfl (Or.inl ⟨_, rfl⟩) (by omega) (by omega) ⟨rfl, rfl, rfl⟩
set_option maxRecDepth 20000 in
theorem t_Rd_begin (G : am_G) {d nx : Nat} (hd : 1 ≤ d) {M : am_M} {j : Nat} (hj : j ≤ 100) {ou : Nat} {dp du dn sy pc9 : Int32} (h5 : M 1005 = some (.inr (5, [.ref 1001, .ref 1003, .ref 1006, .ref 1007, .int (nI j), .int du, .int dn, .int sy, .int pc9, .ref ou, .ref 1208, .ref 1209, .ref 1210]))) {kd nm : Nat} {pl af nf nt : Int32} {nu : Int64} (h6 : M 1006 = some (.inr (6, [.ref 1001, .ref kd, .int pl, .int af, .long nu, .ref nm, .int nf, .int nt]))) (h7 : M 1007 = some (.inl (4, 100, .inr (.inr (.inr (.inr (ci_arr 100))))))) {e a b : Int32} {v : Int64} (hl : M 1210 = some (.inr (8, [.int e, .long v, .int a, .int b]))) (ht : j < 100 → ∃ ro tn mo pr ar e2 v2 a2 b2, M (2 * j + 1008) = some (.inr (7, [.ref ro, .ref tn, .int mo, .int pr, .int ar, .ref (2 * j + 1009)])) ∧ M (2 * j + 1009) = some (.inr (8, [.int e2, .long v2, .int a2, .int b2]))) {k9 n9 : Nat} {mo9 : Int32} : am_Tr G m_Rd_begin d 0 0 [.ref 1005, .ref k9, .ref n9, .int mo9] M nx (fun r M1 nx1 => (j = 100 ∧ r = .inl none ∧ M1 = am_up M 1005 (.inr (5, [.ref 1001, .ref 1003, .ref 1006, .ref 1007, .int (nI j), .int du, .int dn, .int sy, .int pl, .ref ou, .ref 1208, .ref 1209, .ref 1210])) ∧ nx1 = nx) ∨ (j < 100 ∧ r = .inl none ∧ (∃ ro tn mo pr ar e2 v2 a2 b2, M (2 * j + 1008) = some (.inr (7, [.ref ro, .ref tn, .int mo, .int pr, .int ar, .ref (2 * j + 1009)])) ∧ M (2 * j + 1009) = some (.inr (8, [.int e2, .long v2, .int a2, .int b2])) ∧ M1 = am_up (am_up (am_up M (2 * j + 1008) (.inr (7, [.ref k9, .ref n9, .int mo9, .int pr, .int 0, .ref (2 * j + 1009)]))) (2 * j + 1009) (.inr (8, [.int e, .long v, .int a, .int b]))) 1005 (.inr (5, [.ref 1001, .ref 1003, .ref 1006, .ref 1007, .int (nI (j + 1)), .int 1, .int dn, .int sy, .int pc9, .ref ou, .ref 1208, .ref 1209, .ref 1210]))) ∧ nx1 = nx)) := by
  refine am_TrOf (by decide) (Nat.le_of_ble_eq_true rfl) ?_
  show am_V G _ _ _ _ _ 0 [(0, .ref 1005), (1, .ref k9), (2, .ref n9), (3, .int mo9)] [] M nx 0 0
  refine v_aload_n (am_Dk d_Rd_begin (k := 0) rfl) rfl ?_
  refine v_get (am_Dk d_Rd_begin (k := 1) rfl) f_Rd_57 h5 rfl ?_
  refine v_bipush (v := 100) (am_Dk d_Rd_begin (k := 2) rfl) (by decide) ?_
  refine v_icmp_lt (tgt := 14) (am_Dk d_Rd_begin (k := 3) rfl) (by decide) (fun c1 => ?_) (fun c1 => ?_)
  · have Nc1 := (nI_ltI (a := j) (b := 100) (by omega) (by omega)).mp c1
    obtain ⟨ro, tn, mo, pr, ar, e2, v2, a2, b2, ht1, ht2⟩ := ht Nc1
    refine v_aload_n (am_Dk d_Rd_begin (k := 7) rfl) rfl ?_
    refine v_get (am_Dk d_Rd_begin (k := 8) rfl) f_Rd_30 h5 rfl ?_
    refine v_aload_n (am_Dk d_Rd_begin (k := 9) rfl) rfl ?_
    refine v_get (am_Dk d_Rd_begin (k := 10) rfl) f_Rd_57 h5 rfl ?_
    refine v_aald (v := .ref (2 * j + 1008)) (am_Dk d_Rd_begin (k := 11) rfl) h7 rfl (nI_in100 (by omega)) (ci_at (by omega)) ?_
    refine v_astore (L1 := [(4, .ref (2 * j + 1008)), (0, .ref 1005), (1, .ref k9), (2, .ref n9), (3, .int mo9)]) (am_Dk d_Rd_begin (k := 12) rfl) (by decide) rfl ?_
    refine v_aload_n (am_Dk d_Rd_begin (k := 13) rfl) rfl ?_
    refine v_dup (am_Dk d_Rd_begin (k := 14) rfl) rfl ?_
    refine v_get (am_Dk d_Rd_begin (k := 15) rfl) f_Rd_57 h5 rfl ?_
    refine v_iconst (v := 1) (am_Dk d_Rd_begin (k := 16) rfl) (by decide) ?_
    refine v_iadd (am_Dk d_Rd_begin (k := 17) rfl) ?_
    rw [nI_1]
    refine v_put (am_Dk d_Rd_begin (k := 18) rfl) f_Rd_57 h5 (Nat.le_of_ble_eq_true rfl) rfl rfl ?_
    refine v_aload (am_Dk d_Rd_begin (k := 19) rfl) rfl ?_
    refine v_aload_n (am_Dk d_Rd_begin (k := 20) rfl) rfl ?_
    have m2 : (am_up M 1005 (.inr (5, [.ref 1001, .ref 1003, .ref 1006, .ref 1007, .int (nI (j + 1)), .int du, .int dn, .int sy, .int pc9, .ref ou, .ref 1208, .ref 1209, .ref 1210]))) (2 * j + 1008) = some (.inr (7, [.ref ro, .ref tn, .int mo, .int pr, .int ar, .ref (2 * j + 1009)])) := (am_up_ne (show (2 * j + 1008) ≠ 1005 from by omega)).trans (ht1)
    refine v_put (am_Dk d_Rd_begin (k := 21) rfl) f_Rd_109 m2 (Nat.le_of_ble_eq_true rfl) rfl rfl ?_
    refine v_aload (am_Dk d_Rd_begin (k := 22) rfl) rfl ?_
    refine v_aload_n (am_Dk d_Rd_begin (k := 23) rfl) rfl ?_
    have m3 : (am_up (am_up M 1005 (.inr (5, [.ref 1001, .ref 1003, .ref 1006, .ref 1007, .int (nI (j + 1)), .int du, .int dn, .int sy, .int pc9, .ref ou, .ref 1208, .ref 1209, .ref 1210]))) (2 * j + 1008) (.inr (7, [.ref k9, .ref tn, .int mo, .int pr, .int ar, .ref (2 * j + 1009)]))) (2 * j + 1008) = some (.inr (7, [.ref k9, .ref tn, .int mo, .int pr, .int ar, .ref (2 * j + 1009)])) := am_up_eq _ _ _
    refine v_put (am_Dk d_Rd_begin (k := 24) rfl) f_Rd_112 m3 (Nat.le_of_ble_eq_true rfl) rfl rfl ?_
    rw [am_uu0 (a := 2 * j + 1008)]
    refine v_aload (am_Dk d_Rd_begin (k := 25) rfl) rfl ?_
    refine v_iload_n (am_Dk d_Rd_begin (k := 26) rfl) rfl ?_
    have m4 : (am_up (am_up M 1005 (.inr (5, [.ref 1001, .ref 1003, .ref 1006, .ref 1007, .int (nI (j + 1)), .int du, .int dn, .int sy, .int pc9, .ref ou, .ref 1208, .ref 1209, .ref 1210]))) (2 * j + 1008) (.inr (7, [.ref k9, .ref n9, .int mo, .int pr, .int ar, .ref (2 * j + 1009)]))) (2 * j + 1008) = some (.inr (7, [.ref k9, .ref n9, .int mo, .int pr, .int ar, .ref (2 * j + 1009)])) := am_up_eq _ _ _
    refine v_put (am_Dk d_Rd_begin (k := 27) rfl) f_Rd_115 m4 (Nat.le_of_ble_eq_true rfl) rfl rfl ?_
    rw [am_uu0 (a := 2 * j + 1008)]
    refine v_aload (am_Dk d_Rd_begin (k := 28) rfl) rfl ?_
    refine v_iconst (v := 0) (am_Dk d_Rd_begin (k := 29) rfl) (by decide) ?_
    have m5 : (am_up (am_up M 1005 (.inr (5, [.ref 1001, .ref 1003, .ref 1006, .ref 1007, .int (nI (j + 1)), .int du, .int dn, .int sy, .int pc9, .ref ou, .ref 1208, .ref 1209, .ref 1210]))) (2 * j + 1008) (.inr (7, [.ref k9, .ref n9, .int mo9, .int pr, .int ar, .ref (2 * j + 1009)]))) (2 * j + 1008) = some (.inr (7, [.ref k9, .ref n9, .int mo9, .int pr, .int ar, .ref (2 * j + 1009)])) := am_up_eq _ _ _
    refine v_put (am_Dk d_Rd_begin (k := 30) rfl) f_Rd_118 m5 (Nat.le_of_ble_eq_true rfl) rfl rfl ?_
    rw [am_uu0 (a := 2 * j + 1008)]
    refine v_aload (am_Dk d_Rd_begin (k := 31) rfl) rfl ?_
    have m6 : (am_up (am_up M 1005 (.inr (5, [.ref 1001, .ref 1003, .ref 1006, .ref 1007, .int (nI (j + 1)), .int du, .int dn, .int sy, .int pc9, .ref ou, .ref 1208, .ref 1209, .ref 1210]))) (2 * j + 1008) (.inr (7, [.ref k9, .ref n9, .int mo9, .int pr, .int 0, .ref (2 * j + 1009)]))) (2 * j + 1008) = some (.inr (7, [.ref k9, .ref n9, .int mo9, .int pr, .int 0, .ref (2 * j + 1009)])) := am_up_eq _ _ _
    refine v_get9 (am_Dk d_Rd_begin (k := 32) rfl) r_Rd_121 m6 rfl ?_
    refine v_aload_n (am_Dk d_Rd_begin (k := 33) rfl) rfl ?_
    have m7 : (am_up (am_up M 1005 (.inr (5, [.ref 1001, .ref 1003, .ref 1006, .ref 1007, .int (nI (j + 1)), .int du, .int dn, .int sy, .int pc9, .ref ou, .ref 1208, .ref 1209, .ref 1210]))) (2 * j + 1008) (.inr (7, [.ref k9, .ref n9, .int mo9, .int pr, .int 0, .ref (2 * j + 1009)]))) 1005 = some (.inr (5, [.ref 1001, .ref 1003, .ref 1006, .ref 1007, .int (nI (j + 1)), .int du, .int dn, .int sy, .int pc9, .ref ou, .ref 1208, .ref 1209, .ref 1210])) := (am_up_ne (show 1005 ≠ (2 * j + 1008) from by omega)).trans (am_up_eq _ _ _)
    refine v_get (am_Dk d_Rd_begin (k := 34) rfl) f_Rd_54 m7 rfl ?_
    have m8 : (am_up (am_up M 1005 (.inr (5, [.ref 1001, .ref 1003, .ref 1006, .ref 1007, .int (nI (j + 1)), .int du, .int dn, .int sy, .int pc9, .ref ou, .ref 1208, .ref 1209, .ref 1210]))) (2 * j + 1008) (.inr (7, [.ref k9, .ref n9, .int mo9, .int pr, .int 0, .ref (2 * j + 1009)]))) (2 * j + 1009) = some (.inr (8, [.int e2, .long v2, .int a2, .int b2])) := (am_up_ne (show (2 * j + 1009) ≠ (2 * j + 1008) from by omega)).trans ((am_up_ne (show (2 * j + 1009) ≠ 1005 from by omega)).trans (ht2))
    have m9 : (am_up (am_up M 1005 (.inr (5, [.ref 1001, .ref 1003, .ref 1006, .ref 1007, .int (nI (j + 1)), .int du, .int dn, .int sy, .int pc9, .ref ou, .ref 1208, .ref 1209, .ref 1210]))) (2 * j + 1008) (.inr (7, [.ref k9, .ref n9, .int mo9, .int pr, .int 0, .ref (2 * j + 1009)]))) 1210 = some (.inr (8, [.int e, .long v, .int a, .int b])) := (am_up_ne (show 1210 ≠ (2 * j + 1008) from by omega)).trans ((am_up_ne (show 1210 ≠ 1005 from by decide)).trans (hl))
    refine v_callV (rest := []) (As := [.ref 1210]) (mc' := 0) (ms' := 0) (am_Dk d_Rd_begin (k := 35) rfl) c_Rd_123 (Or.inl ⟨_, _, _, _, _, m8, cq_ok8⟩) (t_Op_copy G (d := 0) (by omega) m8 m9 (show ¬ 1210 = 2 * j + 1009 from by omega)) (by omega) (by omega) (by omega) (by simp [Value.category]) rfl (fun v10 M11 n12 h13 => ?_) (fun _ _ _ h13 => ?_)
    rotate_left
    · exact absurd h13.1 (by simp)
    obtain ⟨h13, e14, e15⟩ := h13
    replace e14 := e14.symm
    replace e15 := e15.symm
    subst e14
    subst e15
    cases h13
    show am_V G _ _ _ _ _ 71 [(4, .ref (2 * j + 1008)), (0, .ref 1005), (1, .ref k9), (2, .ref n9), (3, .int mo9)] [] (am_up (am_up (am_up M 1005 (.inr (5, [.ref 1001, .ref 1003, .ref 1006, .ref 1007, .int (nI (j + 1)), .int du, .int dn, .int sy, .int pc9, .ref ou, .ref 1208, .ref 1209, .ref 1210]))) (2 * j + 1008) (.inr (7, [.ref k9, .ref n9, .int mo9, .int pr, .int 0, .ref (2 * j + 1009)]))) (2 * j + 1009) (.inr (8, [.int e, .long v, .int a, .int b]))) nx 0 0
    refine v_aload_n (am_Dk d_Rd_begin (k := 36) rfl) rfl ?_
    refine v_iconst (v := 1) (am_Dk d_Rd_begin (k := 37) rfl) (by decide) ?_
    have m16 : (am_up (am_up (am_up M 1005 (.inr (5, [.ref 1001, .ref 1003, .ref 1006, .ref 1007, .int (nI (j + 1)), .int du, .int dn, .int sy, .int pc9, .ref ou, .ref 1208, .ref 1209, .ref 1210]))) (2 * j + 1008) (.inr (7, [.ref k9, .ref n9, .int mo9, .int pr, .int 0, .ref (2 * j + 1009)]))) (2 * j + 1009) (.inr (8, [.int e, .long v, .int a, .int b]))) 1005 = some (.inr (5, [.ref 1001, .ref 1003, .ref 1006, .ref 1007, .int (nI (j + 1)), .int du, .int dn, .int sy, .int pc9, .ref ou, .ref 1208, .ref 1209, .ref 1210])) := (am_up_ne (show 1005 ≠ (2 * j + 1009) from by omega)).trans ((am_up_ne (show 1005 ≠ (2 * j + 1008) from by omega)).trans (am_up_eq _ _ _))
    refine v_put (am_Dk d_Rd_begin (k := 38) rfl) f_Rd_85 m16 (Nat.le_of_ble_eq_true rfl) rfl rfl ?_
    rw [am_uu2 (a := 1005)]
    exact v_return (am_Dk d_Rd_begin (k := 39) rfl) rfl (by omega) (by omega) (Or.inr ⟨by omega, rfl, ⟨ro, tn, mo, pr, ar, e2, v2, a2, b2, ht1, ht2, rfl⟩, rfl⟩)
  · have Nc1 : ¬ j < 100 := fun z => c1 ((nI_ltI (a := j) (b := 100) (by omega) (by omega)).mpr z)
    refine v_aload_n (am_Dk d_Rd_begin (k := 4) rfl) rfl ?_
    refine v_callV (rest := []) (As := []) (mc' := 0) (ms' := 0) (am_Dk d_Rd_begin (k := 5) rfl) c_Rd_106 (Or.inl ⟨_, _, _, _, _, h5, cq_ok5⟩) (t_Rd_breakHere G (d := 0) (by omega) h5 h6) (by omega) (by omega) (by omega) (by simp [Value.category]) rfl (fun v17 M18 n19 h20 => ?_) (fun _ _ _ h20 => ?_)
    rotate_left
    · exact absurd h20.1 (by simp)
    obtain ⟨h20, e21, e22⟩ := h20
    replace e21 := e21.symm
    replace e22 := e22.symm
    subst e21
    subst e22
    cases h20
    show am_V G _ _ _ _ _ 13 [(0, .ref 1005), (1, .ref k9), (2, .ref n9), (3, .int mo9)] [] (am_up M 1005 (.inr (5, [.ref 1001, .ref 1003, .ref 1006, .ref 1007, .int (nI j), .int du, .int dn, .int sy, .int pl, .ref ou, .ref 1208, .ref 1209, .ref 1210]))) nx 0 0
    exact v_return (am_Dk d_Rd_begin (k := 6) rfl) rfl (by omega) (by omega) (Or.inl ⟨by omega, rfl, rfl, rfl⟩)
set_option maxRecDepth 20000 in
theorem t_Rd_leave (G : am_G) {d nx : Nat} (hd : 1 ≤ d) {M : am_M} {j : Nat} (hj : j < 100) {ou : Nat} {dp du dn sy pc9 : Int32} (h5 : M 1005 = some (.inr (5, [.ref 1001, .ref 1003, .ref 1006, .ref 1007, .int (nI (j + 2)), .int du, .int dn, .int sy, .int pc9, .ref ou, .ref 1208, .ref 1209, .ref 1210]))) (h7 : M 1007 = some (.inl (4, 100, .inr (.inr (.inr (.inr (ci_arr 100))))))) {ro tn : Nat} {mo pr ar p9 : Int32} (ht : M (2 * j + 1008) = some (.inr (7, [.ref ro, .ref tn, .int mo, .int pr, .int ar, .ref (2 * j + 1009)]))) : am_Tr G m_Rd_leave d 0 0 [.ref 1005, .int p9] M nx (fun r M1 nx1 => r = .inl none ∧ M1 = am_up (am_up M 1005 (.inr (5, [.ref 1001, .ref 1003, .ref 1006, .ref 1007, .int (nI (j + 1)), .int du, .int dn, .int sy, .int pc9, .ref ou, .ref 1208, .ref 1209, .ref 1210]))) (2 * j + 1008) (.inr (7, [.ref ro, .ref tn, .int mo, .int p9, .int ar, .ref (2 * j + 1009)])) ∧ nx1 = nx) := by
  refine am_TrOf (by decide) (Nat.le_of_ble_eq_true rfl) ?_
  show am_V G _ _ _ _ _ 0 [(0, .ref 1005), (1, .int p9)] [] M nx 0 0
  refine v_aload_n (am_Dk d_Rd_leave (k := 0) rfl) rfl ?_
  refine v_dup (am_Dk d_Rd_leave (k := 1) rfl) rfl ?_
  refine v_get (am_Dk d_Rd_leave (k := 2) rfl) f_Rd_57 h5 rfl ?_
  refine v_iconst (v := 1) (am_Dk d_Rd_leave (k := 3) rfl) (by decide) ?_
  refine v_isub (am_Dk d_Rd_leave (k := 4) rfl) ?_
  rw [show (nI (j + 2) - 1 : Int32) = nI (j + 1) from nI_pred (j + 1)]
  refine v_put (am_Dk d_Rd_leave (k := 5) rfl) f_Rd_57 h5 (Nat.le_of_ble_eq_true rfl) rfl rfl ?_
  refine v_aload_n (am_Dk d_Rd_leave (k := 6) rfl) rfl ?_
  have m1 : (am_up M 1005 (.inr (5, [.ref 1001, .ref 1003, .ref 1006, .ref 1007, .int (nI (j + 1)), .int du, .int dn, .int sy, .int pc9, .ref ou, .ref 1208, .ref 1209, .ref 1210]))) 1005 = some (.inr (5, [.ref 1001, .ref 1003, .ref 1006, .ref 1007, .int (nI (j + 1)), .int du, .int dn, .int sy, .int pc9, .ref ou, .ref 1208, .ref 1209, .ref 1210])) := am_up_eq _ _ _
  have m2 : (am_up M 1005 (.inr (5, [.ref 1001, .ref 1003, .ref 1006, .ref 1007, .int (nI (j + 1)), .int du, .int dn, .int sy, .int pc9, .ref ou, .ref 1208, .ref 1209, .ref 1210]))) 1007 = some (.inl (4, 100, .inr (.inr (.inr (.inr (ci_arr 100)))))) := (am_up_ne (show 1007 ≠ 1005 from by decide)).trans (h7)
  refine v_callV (rest := []) (As := []) (mc' := 0) (ms' := 0) (am_Dk d_Rd_leave (k := 7) rfl) c_Rd_127 (Or.inl ⟨_, _, _, _, _, m1, cq_ok5⟩) (t_Rd_innermost G (d := 0) (j := j) (dp := 0) (by omega) (by omega) m1 m2) (by omega) (by omega) (by omega) (by simp [Value.category]) rfl (fun v3 M4 n5 h6 => ?_) (fun _ _ _ h6 => ?_)
  rotate_left
  · exact absurd h6.1 (by simp)
  obtain ⟨h6, e7, e8⟩ := h6
  replace e7 := e7.symm
  replace e8 := e8.symm
  subst e7
  subst e8
  cases h6
  show am_V G _ _ _ _ _ 14 [(0, .ref 1005), (1, .int p9)] [.ref (2 * j + 1008)] (am_up M 1005 (.inr (5, [.ref 1001, .ref 1003, .ref 1006, .ref 1007, .int (nI (j + 1)), .int du, .int dn, .int sy, .int pc9, .ref ou, .ref 1208, .ref 1209, .ref 1210]))) nx 0 0
  refine v_iload_n (am_Dk d_Rd_leave (k := 8) rfl) rfl ?_
  have m9 : (am_up M 1005 (.inr (5, [.ref 1001, .ref 1003, .ref 1006, .ref 1007, .int (nI (j + 1)), .int du, .int dn, .int sy, .int pc9, .ref ou, .ref 1208, .ref 1209, .ref 1210]))) (2 * j + 1008) = some (.inr (7, [.ref ro, .ref tn, .int mo, .int pr, .int ar, .ref (2 * j + 1009)])) := (am_up_ne (show (2 * j + 1008) ≠ 1005 from by omega)).trans (ht)
  refine v_put (am_Dk d_Rd_leave (k := 9) rfl) f_Rd_131 m9 (Nat.le_of_ble_eq_true rfl) rfl rfl ?_
  exact v_return (am_Dk d_Rd_leave (k := 10) rfl) rfl (by omega) (by omega) ⟨rfl, rfl, rfl⟩
set_option maxRecDepth 20000 in
theorem t_Rd_haveSimpleOperand (G : am_G) {d nx : Nat} (hd : 1 ≤ d) {M : am_M} {j : Nat} (hj : j < 100) {ou : Nat} {dp du dn sy pc9 : Int32} (h5 : M 1005 = some (.inr (5, [.ref 1001, .ref 1003, .ref 1006, .ref 1007, .int (nI (j + 1)), .int du, .int dn, .int sy, .int pc9, .ref ou, .ref 1208, .ref 1209, .ref 1210]))) (h7 : M 1007 = some (.inl (4, 100, .inr (.inr (.inr (.inr (ci_arr 100))))))) {ro tn : Nat} {mo pr ar : Int32} (ht : M (2 * j + 1008) = some (.inr (7, [.ref ro, .ref tn, .int mo, .int pr, .int ar, .ref (2 * j + 1009)]))) : am_Tr G m_Rd_haveSimpleOperand d 0 0 [.ref 1005] M nx (fun r M1 nx1 => r = .inl none ∧ M1 = am_up (am_up M (2 * j + 1008) (.inr (7, [.ref ro, .ref tn, .int mo, .int 0, .int ar, .ref (2 * j + 1009)]))) 1005 (.inr (5, [.ref 1001, .ref 1003, .ref 1006, .ref 1007, .int (nI (j + 1)), .int 0, .int dn, .int (sy + 1), .int pc9, .ref ou, .ref 1208, .ref 1209, .ref 1210])) ∧ nx1 = nx) := by
  refine am_TrOf (by decide) (Nat.le_of_ble_eq_true rfl) ?_
  show am_V G _ _ _ _ _ 0 [(0, .ref 1005)] [] M nx 0 0
  refine v_aload_n (am_Dk d_Rd_haveSimpleOperand (k := 0) rfl) rfl ?_
  refine v_dup (am_Dk d_Rd_haveSimpleOperand (k := 1) rfl) rfl ?_
  refine v_get (am_Dk d_Rd_haveSimpleOperand (k := 2) rfl) f_Rd_65 h5 rfl ?_
  refine v_iconst (v := 1) (am_Dk d_Rd_haveSimpleOperand (k := 3) rfl) (by decide) ?_
  refine v_iadd (am_Dk d_Rd_haveSimpleOperand (k := 4) rfl) ?_
  refine v_put (am_Dk d_Rd_haveSimpleOperand (k := 5) rfl) f_Rd_65 h5 (Nat.le_of_ble_eq_true rfl) rfl rfl ?_
  refine v_aload_n (am_Dk d_Rd_haveSimpleOperand (k := 6) rfl) rfl ?_
  have m1 : (am_up M 1005 (.inr (5, [.ref 1001, .ref 1003, .ref 1006, .ref 1007, .int (nI (j + 1)), .int du, .int dn, .int ((sy) + (1)), .int pc9, .ref ou, .ref 1208, .ref 1209, .ref 1210]))) 1005 = some (.inr (5, [.ref 1001, .ref 1003, .ref 1006, .ref 1007, .int (nI (j + 1)), .int du, .int dn, .int ((sy) + (1)), .int pc9, .ref ou, .ref 1208, .ref 1209, .ref 1210])) := am_up_eq _ _ _
  have m2 : (am_up M 1005 (.inr (5, [.ref 1001, .ref 1003, .ref 1006, .ref 1007, .int (nI (j + 1)), .int du, .int dn, .int ((sy) + (1)), .int pc9, .ref ou, .ref 1208, .ref 1209, .ref 1210]))) 1007 = some (.inl (4, 100, .inr (.inr (.inr (.inr (ci_arr 100)))))) := (am_up_ne (show 1007 ≠ 1005 from by decide)).trans (h7)
  refine v_callV (rest := []) (As := []) (mc' := 0) (ms' := 0) (am_Dk d_Rd_haveSimpleOperand (k := 7) rfl) c_Rd_127 (Or.inl ⟨_, _, _, _, _, m1, cq_ok5⟩) (t_Rd_innermost G (d := 0) (j := j) (dp := 0) (by omega) (by omega) m1 m2) (by omega) (by omega) (by omega) (by simp [Value.category]) rfl (fun v3 M4 n5 h6 => ?_) (fun _ _ _ h6 => ?_)
  rotate_left
  · exact absurd h6.1 (by simp)
  obtain ⟨h6, e7, e8⟩ := h6
  replace e7 := e7.symm
  replace e8 := e8.symm
  subst e7
  subst e8
  cases h6
  show am_V G _ _ _ _ _ 14 [(0, .ref 1005)] [.ref (2 * j + 1008)] (am_up M 1005 (.inr (5, [.ref 1001, .ref 1003, .ref 1006, .ref 1007, .int (nI (j + 1)), .int du, .int dn, .int ((sy) + (1)), .int pc9, .ref ou, .ref 1208, .ref 1209, .ref 1210]))) nx 0 0
  refine v_iconst (v := 0) (am_Dk d_Rd_haveSimpleOperand (k := 8) rfl) (by decide) ?_
  have m9 : (am_up M 1005 (.inr (5, [.ref 1001, .ref 1003, .ref 1006, .ref 1007, .int (nI (j + 1)), .int du, .int dn, .int ((sy) + (1)), .int pc9, .ref ou, .ref 1208, .ref 1209, .ref 1210]))) (2 * j + 1008) = some (.inr (7, [.ref ro, .ref tn, .int mo, .int pr, .int ar, .ref (2 * j + 1009)])) := (am_up_ne (show (2 * j + 1008) ≠ 1005 from by omega)).trans (ht)
  refine v_put (am_Dk d_Rd_haveSimpleOperand (k := 9) rfl) f_Rd_131 m9 (Nat.le_of_ble_eq_true rfl) rfl rfl ?_
  refine v_aload_n (am_Dk d_Rd_haveSimpleOperand (k := 10) rfl) rfl ?_
  refine v_iconst (v := 0) (am_Dk d_Rd_haveSimpleOperand (k := 11) rfl) (by decide) ?_
  have m10 : (am_up (am_up M 1005 (.inr (5, [.ref 1001, .ref 1003, .ref 1006, .ref 1007, .int (nI (j + 1)), .int du, .int dn, .int ((sy) + (1)), .int pc9, .ref ou, .ref 1208, .ref 1209, .ref 1210]))) (2 * j + 1008) (.inr (7, [.ref ro, .ref tn, .int mo, .int 0, .int ar, .ref (2 * j + 1009)]))) 1005 = some (.inr (5, [.ref 1001, .ref 1003, .ref 1006, .ref 1007, .int (nI (j + 1)), .int du, .int dn, .int ((sy) + (1)), .int pc9, .ref ou, .ref 1208, .ref 1209, .ref 1210])) := (am_up_ne (show 1005 ≠ (2 * j + 1008) from by omega)).trans (am_up_eq _ _ _)
  refine v_put (am_Dk d_Rd_haveSimpleOperand (k := 12) rfl) f_Rd_85 m10 (Nat.le_of_ble_eq_true rfl) rfl rfl ?_
  rw [am_uu1 (a := 1005)]
  exact v_return (am_Dk d_Rd_haveSimpleOperand (k := 13) rfl) rfl (by omega) (by omega) ⟨rfl, rfl, rfl⟩
set_option maxRecDepth 20000 in
theorem t_Rd_combine (G : am_G) {d nx : Nat} (hd : 3 ≤ d) {M : am_M} {ou : Nat} {dp du dn sy pc9 : Int32} (h5 : M 1005 = some (.inr (5, [.ref 1001, .ref 1003, .ref 1006, .ref 1007, .int dp, .int du, .int dn, .int sy, .int pc9, .ref ou, .ref 1208, .ref 1209, .ref 1210]))) {y k : Nat} (hk : k < 26) (hy1 : ¬ y = 1005 ∧ ¬ y = 1208 ∧ ¬ y = 1209 ∧ ¬ y = 1210) {m e a b e1 a1 b1 e2 a2 b2 e3 a3 b3 : Int32} {v v1 v2 v3 : Int64} (hy : M y = some (.inr (8, [.int e1, .long v1, .int a1, .int b1]))) (hl : M 1210 = some (.inr (8, [.int e, .long v, .int a, .int b]))) (hle : M 1208 = some (.inr (8, [.int e2, .long v2, .int a2, .int b2]))) (hri : M 1209 = some (.inr (8, [.int e3, .long v3, .int a3, .int b3]))) : am_Tr G m_Rd_combine d 0 0 [.ref 1005, .ref k, .int m, .ref y] M nx (fun r M1 nx1 => r = .inl none ∧ M1 = am_up (am_up (am_up (am_up M 1005 (.inr (5, [.ref 1001, .ref 1003, .ref 1006, .ref 1007, .int dp, .int du, .int dn, .int (sy + 1), .int pc9, .ref (if m = 2 then k else 0), .ref 1208, .ref 1209, .ref 1210]))) 1208 (.inr (8, [.int e1, .long v1, .int a1, .int b1]))) 1209 (.inr (8, [.int e, .long v, .int a, .int b]))) 1210 (.inr (8, [.int ((cbn m k e1 v1 e v).1), .long ((cbn m k e1 v1 e v).2), .int 0, .int 0])) ∧ nx1 = nx) := by
  refine am_TrOf (by decide) (Nat.le_of_ble_eq_true rfl) ?_
  show am_V G _ _ _ _ _ 0 [(0, .ref 1005), (1, .ref k), (2, .int m), (3, .ref y)] [] M nx 0 0
  refine v_aload_n (am_Dk d_Rd_combine (k := 0) rfl) rfl ?_
  refine v_dup (am_Dk d_Rd_combine (k := 1) rfl) rfl ?_
  refine v_get (am_Dk d_Rd_combine (k := 2) rfl) f_Rd_65 h5 rfl ?_
  refine v_iconst (v := 1) (am_Dk d_Rd_combine (k := 3) rfl) (by decide) ?_
  refine v_iadd (am_Dk d_Rd_combine (k := 4) rfl) ?_
  refine v_put (am_Dk d_Rd_combine (k := 5) rfl) f_Rd_65 h5 (Nat.le_of_ble_eq_true rfl) rfl rfl ?_
  refine v_aload_n (am_Dk d_Rd_combine (k := 6) rfl) rfl ?_
  refine v_iload_n (am_Dk d_Rd_combine (k := 7) rfl) rfl ?_
  refine v_iconst (v := 2) (am_Dk d_Rd_combine (k := 8) rfl) (by decide) ?_
  refine v_icmp_ne (tgt := 20) (am_Dk d_Rd_combine (k := 9) rfl) (by decide) (fun c1 => ?_) (fun c1 => ?_)
  · have q2 := c1
    refine v_gets (v := .ref 0) (am_Dk d_Rd_combine (k := 12) rfl) s_Rd_35 (by decide +kernel) ?_
    have m2 : (am_up M 1005 (.inr (5, [.ref 1001, .ref 1003, .ref 1006, .ref 1007, .int dp, .int du, .int dn, .int ((sy) + (1)), .int pc9, .ref ou, .ref 1208, .ref 1209, .ref 1210]))) 1005 = some (.inr (5, [.ref 1001, .ref 1003, .ref 1006, .ref 1007, .int dp, .int du, .int dn, .int ((sy) + (1)), .int pc9, .ref ou, .ref 1208, .ref 1209, .ref 1210])) := am_up_eq _ _ _
    refine v_put (am_Dk d_Rd_combine (k := 13) rfl) f_Rd_41 m2 (Nat.le_of_ble_eq_true rfl) rfl rfl ?_
    rw [am_uu0 (a := 1005)]
    refine v_aload_n (am_Dk d_Rd_combine (k := 14) rfl) rfl ?_
    have m3 : (am_up M 1005 (.inr (5, [.ref 1001, .ref 1003, .ref 1006, .ref 1007, .int dp, .int du, .int dn, .int ((sy) + (1)), .int pc9, .ref 0, .ref 1208, .ref 1209, .ref 1210]))) 1005 = some (.inr (5, [.ref 1001, .ref 1003, .ref 1006, .ref 1007, .int dp, .int du, .int dn, .int ((sy) + (1)), .int pc9, .ref 0, .ref 1208, .ref 1209, .ref 1210])) := am_up_eq _ _ _
    refine v_get (am_Dk d_Rd_combine (k := 15) rfl) f_Rd_47 m3 rfl ?_
    refine v_aload_n (am_Dk d_Rd_combine (k := 16) rfl) rfl ?_
    have m4 : (am_up M 1005 (.inr (5, [.ref 1001, .ref 1003, .ref 1006, .ref 1007, .int dp, .int du, .int dn, .int ((sy) + (1)), .int pc9, .ref 0, .ref 1208, .ref 1209, .ref 1210]))) 1208 = some (.inr (8, [.int e2, .long v2, .int a2, .int b2])) := (am_up_ne (show 1208 ≠ 1005 from by decide)).trans (hle)
    have m5 : (am_up M 1005 (.inr (5, [.ref 1001, .ref 1003, .ref 1006, .ref 1007, .int dp, .int du, .int dn, .int ((sy) + (1)), .int pc9, .ref 0, .ref 1208, .ref 1209, .ref 1210]))) y = some (.inr (8, [.int e1, .long v1, .int a1, .int b1])) := (am_up_ne (show y ≠ 1005 from by omega)).trans (hy)
    refine v_callV (rest := []) (As := [.ref y]) (mc' := 0) (ms' := 0) (am_Dk d_Rd_combine (k := 17) rfl) c_Rd_123 (Or.inl ⟨_, _, _, _, _, m4, cq_ok8⟩) (t_Op_copy G (d := 0) (by omega) m4 m5 (show ¬ y = 1208 from by omega)) (by omega) (by omega) (by omega) (by simp [Value.category]) rfl (fun v6 M7 n8 h9 => ?_) (fun _ _ _ h9 => ?_)
    rotate_left
    · exact absurd h9.1 (by simp)
    obtain ⟨h9, e10, e11⟩ := h9
    replace e10 := e10.symm
    replace e11 := e11.symm
    subst e10
    subst e11
    cases h9
    show am_V G _ _ _ _ _ 34 [(0, .ref 1005), (1, .ref k), (2, .int m), (3, .ref y)] [] (am_up (am_up M 1005 (.inr (5, [.ref 1001, .ref 1003, .ref 1006, .ref 1007, .int dp, .int du, .int dn, .int ((sy) + (1)), .int pc9, .ref 0, .ref 1208, .ref 1209, .ref 1210]))) 1208 (.inr (8, [.int e1, .long v1, .int a1, .int b1]))) nx 0 0
    refine v_aload_n (am_Dk d_Rd_combine (k := 18) rfl) rfl ?_
    have m12 : (am_up (am_up M 1005 (.inr (5, [.ref 1001, .ref 1003, .ref 1006, .ref 1007, .int dp, .int du, .int dn, .int ((sy) + (1)), .int pc9, .ref 0, .ref 1208, .ref 1209, .ref 1210]))) 1208 (.inr (8, [.int e1, .long v1, .int a1, .int b1]))) 1005 = some (.inr (5, [.ref 1001, .ref 1003, .ref 1006, .ref 1007, .int dp, .int du, .int dn, .int ((sy) + (1)), .int pc9, .ref 0, .ref 1208, .ref 1209, .ref 1210])) := (am_up_ne (show 1005 ≠ 1208 from by decide)).trans (am_up_eq _ _ _)
    refine v_get (am_Dk d_Rd_combine (k := 19) rfl) f_Rd_51 m12 rfl ?_
    refine v_aload_n (am_Dk d_Rd_combine (k := 20) rfl) rfl ?_
    refine v_get (am_Dk d_Rd_combine (k := 21) rfl) f_Rd_54 m12 rfl ?_
    have m13 : (am_up (am_up M 1005 (.inr (5, [.ref 1001, .ref 1003, .ref 1006, .ref 1007, .int dp, .int du, .int dn, .int ((sy) + (1)), .int pc9, .ref 0, .ref 1208, .ref 1209, .ref 1210]))) 1208 (.inr (8, [.int e1, .long v1, .int a1, .int b1]))) 1209 = some (.inr (8, [.int e3, .long v3, .int a3, .int b3])) := (am_up_ne (show 1209 ≠ 1208 from by decide)).trans ((am_up_ne (show 1209 ≠ 1005 from by decide)).trans (hri))
    have m14 : (am_up (am_up M 1005 (.inr (5, [.ref 1001, .ref 1003, .ref 1006, .ref 1007, .int dp, .int du, .int dn, .int ((sy) + (1)), .int pc9, .ref 0, .ref 1208, .ref 1209, .ref 1210]))) 1208 (.inr (8, [.int e1, .long v1, .int a1, .int b1]))) 1210 = some (.inr (8, [.int e, .long v, .int a, .int b])) := (am_up_ne (show 1210 ≠ 1208 from by decide)).trans ((am_up_ne (show 1210 ≠ 1005 from by decide)).trans (hl))
    refine v_callV (rest := []) (As := [.ref 1210]) (mc' := 0) (ms' := 0) (am_Dk d_Rd_combine (k := 22) rfl) c_Rd_123 (Or.inl ⟨_, _, _, _, _, m13, cq_ok8⟩) (t_Op_copy G (d := 0) (by omega) m13 m14 (show ¬ 1210 = 1209 from by decide)) (by omega) (by omega) (by omega) (by simp [Value.category]) rfl (fun v15 M16 n17 h18 => ?_) (fun _ _ _ h18 => ?_)
    rotate_left
    · exact absurd h18.1 (by simp)
    obtain ⟨h18, e19, e20⟩ := h18
    replace e19 := e19.symm
    replace e20 := e20.symm
    subst e19
    subst e20
    cases h18
    show am_V G _ _ _ _ _ 45 [(0, .ref 1005), (1, .ref k), (2, .int m), (3, .ref y)] [] (am_up (am_up (am_up M 1005 (.inr (5, [.ref 1001, .ref 1003, .ref 1006, .ref 1007, .int dp, .int du, .int dn, .int ((sy) + (1)), .int pc9, .ref 0, .ref 1208, .ref 1209, .ref 1210]))) 1208 (.inr (8, [.int e1, .long v1, .int a1, .int b1]))) 1209 (.inr (8, [.int e, .long v, .int a, .int b]))) nx 0 0
    refine v_iload_n (am_Dk d_Rd_combine (k := 23) rfl) rfl ?_
    refine v_iconst (v := 1) (am_Dk d_Rd_combine (k := 24) rfl) (by decide) ?_
    refine v_icmp_ne (tgt := 61) (am_Dk d_Rd_combine (k := 25) rfl) (by decide) (fun c21 => ?_) (fun c21 => ?_)
    · have q1 := c21
      refine v_iload_n (am_Dk d_Rd_combine (k := 31) rfl) rfl ?_
      refine v_iconst (v := 2) (am_Dk d_Rd_combine (k := 32) rfl) (by decide) ?_
      refine v_icmp_ne (tgt := 78) (am_Dk d_Rd_combine (k := 33) rfl) (by decide) (fun c22 => ?_) (fun c22 => ?_)
      · have q3 := c22
        refine v_aload_n (am_Dk d_Rd_combine (k := 40) rfl) rfl ?_
        have m23 : (am_up (am_up (am_up M 1005 (.inr (5, [.ref 1001, .ref 1003, .ref 1006, .ref 1007, .int dp, .int du, .int dn, .int ((sy) + (1)), .int pc9, .ref 0, .ref 1208, .ref 1209, .ref 1210]))) 1208 (.inr (8, [.int e1, .long v1, .int a1, .int b1]))) 1209 (.inr (8, [.int e, .long v, .int a, .int b]))) 1005 = some (.inr (5, [.ref 1001, .ref 1003, .ref 1006, .ref 1007, .int dp, .int du, .int dn, .int ((sy) + (1)), .int pc9, .ref 0, .ref 1208, .ref 1209, .ref 1210])) := (am_up_ne (show 1005 ≠ 1209 from by decide)).trans ((am_up_ne (show 1005 ≠ 1208 from by decide)).trans (am_up_eq _ _ _))
        refine v_get (am_Dk d_Rd_combine (k := 41) rfl) f_Rd_54 m23 rfl ?_
        refine v_iconst (v := 2) (am_Dk d_Rd_combine (k := 42) rfl) (by decide) ?_
        have m24 : (am_up (am_up (am_up M 1005 (.inr (5, [.ref 1001, .ref 1003, .ref 1006, .ref 1007, .int dp, .int du, .int dn, .int ((sy) + (1)), .int pc9, .ref 0, .ref 1208, .ref 1209, .ref 1210]))) 1208 (.inr (8, [.int e1, .long v1, .int a1, .int b1]))) 1209 (.inr (8, [.int e, .long v, .int a, .int b]))) 1210 = some (.inr (8, [.int e, .long v, .int a, .int b])) := (am_up_ne (show 1210 ≠ 1209 from by decide)).trans ((am_up_ne (show 1210 ≠ 1208 from by decide)).trans ((am_up_ne (show 1210 ≠ 1005 from by decide)).trans (hl)))
        refine v_callV (rest := []) (As := [.int 2]) (mc' := 0) (ms' := 0) (am_Dk d_Rd_combine (k := 43) rfl) c_Rd_179 (Or.inl ⟨_, _, _, _, _, m24, cq_ok8⟩) (t_Op_fail G (d := 0) (by omega) m24) (by omega) (by omega) (by omega) (by simp [Value.category]) rfl (fun v25 M26 n27 h28 => ?_) (fun _ _ _ h28 => ?_)
        rotate_left
        · exact absurd h28.1 (by simp)
        obtain ⟨h28, e29, e30⟩ := h28
        replace e29 := e29.symm
        replace e30 := e30.symm
        subst e29
        subst e30
        cases h28
        show am_V G _ _ _ _ _ 86 [(0, .ref 1005), (1, .ref k), (2, .int m), (3, .ref y)] [] (am_up (am_up (am_up (am_up M 1005 (.inr (5, [.ref 1001, .ref 1003, .ref 1006, .ref 1007, .int dp, .int du, .int dn, .int ((sy) + (1)), .int pc9, .ref 0, .ref 1208, .ref 1209, .ref 1210]))) 1208 (.inr (8, [.int e1, .long v1, .int a1, .int b1]))) 1209 (.inr (8, [.int e, .long v, .int a, .int b]))) 1210 (.inr (8, [.int 2, .long 0, .int 0, .int 0]))) nx 0 0
        exact v_return (am_Dk d_Rd_combine (k := 44) rfl) rfl (by omega) (by omega) ⟨rfl, by rw [cbn, if_neg q1, if_neg q3, if_neg q2], rfl⟩
      · have q3 := c22
        refine v_aload_n (am_Dk d_Rd_combine (k := 34) rfl) rfl ?_
        have m31 : (am_up (am_up (am_up M 1005 (.inr (5, [.ref 1001, .ref 1003, .ref 1006, .ref 1007, .int dp, .int du, .int dn, .int ((sy) + (1)), .int pc9, .ref 0, .ref 1208, .ref 1209, .ref 1210]))) 1208 (.inr (8, [.int e1, .long v1, .int a1, .int b1]))) 1209 (.inr (8, [.int e, .long v, .int a, .int b]))) 1005 = some (.inr (5, [.ref 1001, .ref 1003, .ref 1006, .ref 1007, .int dp, .int du, .int dn, .int ((sy) + (1)), .int pc9, .ref 0, .ref 1208, .ref 1209, .ref 1210])) := (am_up_ne (show 1005 ≠ 1209 from by decide)).trans ((am_up_ne (show 1005 ≠ 1208 from by decide)).trans (am_up_eq _ _ _))
        refine v_get (am_Dk d_Rd_combine (k := 35) rfl) f_Rd_54 m31 rfl ?_
        refine v_aload_n (am_Dk d_Rd_combine (k := 36) rfl) rfl ?_
        refine v_aload_n (am_Dk d_Rd_combine (k := 37) rfl) rfl ?_
        have m32 : (am_up (am_up (am_up M 1005 (.inr (5, [.ref 1001, .ref 1003, .ref 1006, .ref 1007, .int dp, .int du, .int dn, .int ((sy) + (1)), .int pc9, .ref 0, .ref 1208, .ref 1209, .ref 1210]))) 1208 (.inr (8, [.int e1, .long v1, .int a1, .int b1]))) 1209 (.inr (8, [.int e, .long v, .int a, .int b]))) 1210 = some (.inr (8, [.int e, .long v, .int a, .int b])) := (am_up_ne (show 1210 ≠ 1209 from by decide)).trans ((am_up_ne (show 1210 ≠ 1208 from by decide)).trans ((am_up_ne (show 1210 ≠ 1005 from by decide)).trans (hl)))
        have m33 : (am_up (am_up (am_up M 1005 (.inr (5, [.ref 1001, .ref 1003, .ref 1006, .ref 1007, .int dp, .int du, .int dn, .int ((sy) + (1)), .int pc9, .ref 0, .ref 1208, .ref 1209, .ref 1210]))) 1208 (.inr (8, [.int e1, .long v1, .int a1, .int b1]))) 1209 (.inr (8, [.int e, .long v, .int a, .int b]))) y = some (.inr (8, [.int e1, .long v1, .int a1, .int b1])) := (am_up_ne (show y ≠ 1209 from by omega)).trans ((am_up_ne (show y ≠ 1208 from by omega)).trans ((am_up_ne (show y ≠ 1005 from by omega)).trans (hy)))
        refine v_callV (rest := []) (As := [.ref k, .ref y]) (mc' := 0) (ms' := 0) (am_Dk d_Rd_combine (k := 38) rfl) c_Rd_287 (Or.inl ⟨_, _, _, _, _, m32, cq_ok8⟩) (t_Op_reckonTwo G (d := 2) (by omega) m32 m33 (show ¬ y = 1210 from by omega) hk) (by omega) (by omega) (by omega) (by simp [Value.category]) rfl (fun v34 M35 n36 h37 => ?_) (fun _ _ _ h37 => ?_)
        rotate_left
        · exact absurd h37.1 (by simp)
        obtain ⟨h37, e38, e39⟩ := h37
        replace e38 := e38.symm
        replace e39 := e39.symm
        subst e38
        subst e39
        cases h37
        show am_V G _ _ _ _ _ 75 [(0, .ref 1005), (1, .ref k), (2, .int m), (3, .ref y)] [] (am_up (am_up (am_up (am_up M 1005 (.inr (5, [.ref 1001, .ref 1003, .ref 1006, .ref 1007, .int dp, .int du, .int dn, .int ((sy) + (1)), .int pc9, .ref 0, .ref 1208, .ref 1209, .ref 1210]))) 1208 (.inr (8, [.int e1, .long v1, .int a1, .int b1]))) 1209 (.inr (8, [.int e, .long v, .int a, .int b]))) 1210 (.inr (8, [.int (rk2 k e1 v1 e v).1, .long (rk2 k e1 v1 e v).2, .int 0, .int 0]))) nx 0 0
        refine v_goto (tgt := 86) (am_Dk d_Rd_combine (k := 39) rfl) (by decide) ?_
        exact absurd q3 q2
    · have q1 := c21
      refine v_aload_n (am_Dk d_Rd_combine (k := 26) rfl) rfl ?_
      have m40 : (am_up (am_up (am_up M 1005 (.inr (5, [.ref 1001, .ref 1003, .ref 1006, .ref 1007, .int dp, .int du, .int dn, .int ((sy) + (1)), .int pc9, .ref 0, .ref 1208, .ref 1209, .ref 1210]))) 1208 (.inr (8, [.int e1, .long v1, .int a1, .int b1]))) 1209 (.inr (8, [.int e, .long v, .int a, .int b]))) 1005 = some (.inr (5, [.ref 1001, .ref 1003, .ref 1006, .ref 1007, .int dp, .int du, .int dn, .int ((sy) + (1)), .int pc9, .ref 0, .ref 1208, .ref 1209, .ref 1210])) := (am_up_ne (show 1005 ≠ 1209 from by decide)).trans ((am_up_ne (show 1005 ≠ 1208 from by decide)).trans (am_up_eq _ _ _))
      refine v_get (am_Dk d_Rd_combine (k := 27) rfl) f_Rd_54 m40 rfl ?_
      refine v_aload_n (am_Dk d_Rd_combine (k := 28) rfl) rfl ?_
      have m41 : (am_up (am_up (am_up M 1005 (.inr (5, [.ref 1001, .ref 1003, .ref 1006, .ref 1007, .int dp, .int du, .int dn, .int ((sy) + (1)), .int pc9, .ref 0, .ref 1208, .ref 1209, .ref 1210]))) 1208 (.inr (8, [.int e1, .long v1, .int a1, .int b1]))) 1209 (.inr (8, [.int e, .long v, .int a, .int b]))) 1210 = some (.inr (8, [.int e, .long v, .int a, .int b])) := (am_up_ne (show 1210 ≠ 1209 from by decide)).trans ((am_up_ne (show 1210 ≠ 1208 from by decide)).trans ((am_up_ne (show 1210 ≠ 1005 from by decide)).trans (hl)))
      refine v_callV (rest := []) (As := [.ref k]) (mc' := 0) (ms' := 0) (am_Dk d_Rd_combine (k := 29) rfl) c_Rd_283 (Or.inl ⟨_, _, _, _, _, m41, cq_ok8⟩) (t_Op_reckonOne G (d := 1) (by omega) m41 hk) (by omega) (by omega) (by omega) (by simp [Value.category]) rfl (fun v42 M43 n44 h45 => ?_) (fun _ _ _ h45 => ?_)
      rotate_left
      · exact absurd h45.1 (by simp)
      obtain ⟨h45, e46, e47⟩ := h45
      replace e46 := e46.symm
      replace e47 := e47.symm
      subst e46
      subst e47
      cases h45
      show am_V G _ _ _ _ _ 58 [(0, .ref 1005), (1, .ref k), (2, .int m), (3, .ref y)] [] (am_up (am_up (am_up (am_up M 1005 (.inr (5, [.ref 1001, .ref 1003, .ref 1006, .ref 1007, .int dp, .int du, .int dn, .int ((sy) + (1)), .int pc9, .ref 0, .ref 1208, .ref 1209, .ref 1210]))) 1208 (.inr (8, [.int e1, .long v1, .int a1, .int b1]))) 1209 (.inr (8, [.int e, .long v, .int a, .int b]))) 1210 (.inr (8, [.int (rk1 k e v).1, .long (rk1 k e v).2, .int 0, .int 0]))) nx 0 0
      refine v_goto (tgt := 86) (am_Dk d_Rd_combine (k := 30) rfl) (by decide) ?_
      exact v_return (am_Dk d_Rd_combine (k := 44) rfl) rfl (by omega) (by omega) ⟨rfl, by rw [cbn, if_pos q1, if_neg q2], rfl⟩
  · have q2 := c1
    refine v_aload_n (am_Dk d_Rd_combine (k := 10) rfl) rfl ?_
    refine v_goto (tgt := 23) (am_Dk d_Rd_combine (k := 11) rfl) (by decide) ?_
    have m48 : (am_up M 1005 (.inr (5, [.ref 1001, .ref 1003, .ref 1006, .ref 1007, .int dp, .int du, .int dn, .int ((sy) + (1)), .int pc9, .ref ou, .ref 1208, .ref 1209, .ref 1210]))) 1005 = some (.inr (5, [.ref 1001, .ref 1003, .ref 1006, .ref 1007, .int dp, .int du, .int dn, .int ((sy) + (1)), .int pc9, .ref ou, .ref 1208, .ref 1209, .ref 1210])) := am_up_eq _ _ _
    refine v_put (am_Dk d_Rd_combine (k := 13) rfl) f_Rd_41 m48 (Nat.le_of_ble_eq_true rfl) rfl rfl ?_
    rw [am_uu0 (a := 1005)]
    refine v_aload_n (am_Dk d_Rd_combine (k := 14) rfl) rfl ?_
    have m49 : (am_up M 1005 (.inr (5, [.ref 1001, .ref 1003, .ref 1006, .ref 1007, .int dp, .int du, .int dn, .int ((sy) + (1)), .int pc9, .ref k, .ref 1208, .ref 1209, .ref 1210]))) 1005 = some (.inr (5, [.ref 1001, .ref 1003, .ref 1006, .ref 1007, .int dp, .int du, .int dn, .int ((sy) + (1)), .int pc9, .ref k, .ref 1208, .ref 1209, .ref 1210])) := am_up_eq _ _ _
    refine v_get (am_Dk d_Rd_combine (k := 15) rfl) f_Rd_47 m49 rfl ?_
    refine v_aload_n (am_Dk d_Rd_combine (k := 16) rfl) rfl ?_
    have m50 : (am_up M 1005 (.inr (5, [.ref 1001, .ref 1003, .ref 1006, .ref 1007, .int dp, .int du, .int dn, .int ((sy) + (1)), .int pc9, .ref k, .ref 1208, .ref 1209, .ref 1210]))) 1208 = some (.inr (8, [.int e2, .long v2, .int a2, .int b2])) := (am_up_ne (show 1208 ≠ 1005 from by decide)).trans (hle)
    have m51 : (am_up M 1005 (.inr (5, [.ref 1001, .ref 1003, .ref 1006, .ref 1007, .int dp, .int du, .int dn, .int ((sy) + (1)), .int pc9, .ref k, .ref 1208, .ref 1209, .ref 1210]))) y = some (.inr (8, [.int e1, .long v1, .int a1, .int b1])) := (am_up_ne (show y ≠ 1005 from by omega)).trans (hy)
    refine v_callV (rest := []) (As := [.ref y]) (mc' := 0) (ms' := 0) (am_Dk d_Rd_combine (k := 17) rfl) c_Rd_123 (Or.inl ⟨_, _, _, _, _, m50, cq_ok8⟩) (t_Op_copy G (d := 0) (by omega) m50 m51 (show ¬ y = 1208 from by omega)) (by omega) (by omega) (by omega) (by simp [Value.category]) rfl (fun v52 M53 n54 h55 => ?_) (fun _ _ _ h55 => ?_)
    rotate_left
    · exact absurd h55.1 (by simp)
    obtain ⟨h55, e56, e57⟩ := h55
    replace e56 := e56.symm
    replace e57 := e57.symm
    subst e56
    subst e57
    cases h55
    show am_V G _ _ _ _ _ 34 [(0, .ref 1005), (1, .ref k), (2, .int m), (3, .ref y)] [] (am_up (am_up M 1005 (.inr (5, [.ref 1001, .ref 1003, .ref 1006, .ref 1007, .int dp, .int du, .int dn, .int ((sy) + (1)), .int pc9, .ref k, .ref 1208, .ref 1209, .ref 1210]))) 1208 (.inr (8, [.int e1, .long v1, .int a1, .int b1]))) nx 0 0
    refine v_aload_n (am_Dk d_Rd_combine (k := 18) rfl) rfl ?_
    have m58 : (am_up (am_up M 1005 (.inr (5, [.ref 1001, .ref 1003, .ref 1006, .ref 1007, .int dp, .int du, .int dn, .int ((sy) + (1)), .int pc9, .ref k, .ref 1208, .ref 1209, .ref 1210]))) 1208 (.inr (8, [.int e1, .long v1, .int a1, .int b1]))) 1005 = some (.inr (5, [.ref 1001, .ref 1003, .ref 1006, .ref 1007, .int dp, .int du, .int dn, .int ((sy) + (1)), .int pc9, .ref k, .ref 1208, .ref 1209, .ref 1210])) := (am_up_ne (show 1005 ≠ 1208 from by decide)).trans (am_up_eq _ _ _)
    refine v_get (am_Dk d_Rd_combine (k := 19) rfl) f_Rd_51 m58 rfl ?_
    refine v_aload_n (am_Dk d_Rd_combine (k := 20) rfl) rfl ?_
    refine v_get (am_Dk d_Rd_combine (k := 21) rfl) f_Rd_54 m58 rfl ?_
    have m59 : (am_up (am_up M 1005 (.inr (5, [.ref 1001, .ref 1003, .ref 1006, .ref 1007, .int dp, .int du, .int dn, .int ((sy) + (1)), .int pc9, .ref k, .ref 1208, .ref 1209, .ref 1210]))) 1208 (.inr (8, [.int e1, .long v1, .int a1, .int b1]))) 1209 = some (.inr (8, [.int e3, .long v3, .int a3, .int b3])) := (am_up_ne (show 1209 ≠ 1208 from by decide)).trans ((am_up_ne (show 1209 ≠ 1005 from by decide)).trans (hri))
    have m60 : (am_up (am_up M 1005 (.inr (5, [.ref 1001, .ref 1003, .ref 1006, .ref 1007, .int dp, .int du, .int dn, .int ((sy) + (1)), .int pc9, .ref k, .ref 1208, .ref 1209, .ref 1210]))) 1208 (.inr (8, [.int e1, .long v1, .int a1, .int b1]))) 1210 = some (.inr (8, [.int e, .long v, .int a, .int b])) := (am_up_ne (show 1210 ≠ 1208 from by decide)).trans ((am_up_ne (show 1210 ≠ 1005 from by decide)).trans (hl))
    refine v_callV (rest := []) (As := [.ref 1210]) (mc' := 0) (ms' := 0) (am_Dk d_Rd_combine (k := 22) rfl) c_Rd_123 (Or.inl ⟨_, _, _, _, _, m59, cq_ok8⟩) (t_Op_copy G (d := 0) (by omega) m59 m60 (show ¬ 1210 = 1209 from by decide)) (by omega) (by omega) (by omega) (by simp [Value.category]) rfl (fun v61 M62 n63 h64 => ?_) (fun _ _ _ h64 => ?_)
    rotate_left
    · exact absurd h64.1 (by simp)
    obtain ⟨h64, e65, e66⟩ := h64
    replace e65 := e65.symm
    replace e66 := e66.symm
    subst e65
    subst e66
    cases h64
    show am_V G _ _ _ _ _ 45 [(0, .ref 1005), (1, .ref k), (2, .int m), (3, .ref y)] [] (am_up (am_up (am_up M 1005 (.inr (5, [.ref 1001, .ref 1003, .ref 1006, .ref 1007, .int dp, .int du, .int dn, .int ((sy) + (1)), .int pc9, .ref k, .ref 1208, .ref 1209, .ref 1210]))) 1208 (.inr (8, [.int e1, .long v1, .int a1, .int b1]))) 1209 (.inr (8, [.int e, .long v, .int a, .int b]))) nx 0 0
    refine v_iload_n (am_Dk d_Rd_combine (k := 23) rfl) rfl ?_
    refine v_iconst (v := 1) (am_Dk d_Rd_combine (k := 24) rfl) (by decide) ?_
    refine v_icmp_ne (tgt := 61) (am_Dk d_Rd_combine (k := 25) rfl) (by decide) (fun c67 => ?_) (fun c67 => ?_)
    · have q1 := c67
      refine v_iload_n (am_Dk d_Rd_combine (k := 31) rfl) rfl ?_
      refine v_iconst (v := 2) (am_Dk d_Rd_combine (k := 32) rfl) (by decide) ?_
      refine v_icmp_ne (tgt := 78) (am_Dk d_Rd_combine (k := 33) rfl) (by decide) (fun c68 => ?_) (fun c68 => ?_)
      · have q3 := c68
        refine v_aload_n (am_Dk d_Rd_combine (k := 40) rfl) rfl ?_
        have m69 : (am_up (am_up (am_up M 1005 (.inr (5, [.ref 1001, .ref 1003, .ref 1006, .ref 1007, .int dp, .int du, .int dn, .int ((sy) + (1)), .int pc9, .ref k, .ref 1208, .ref 1209, .ref 1210]))) 1208 (.inr (8, [.int e1, .long v1, .int a1, .int b1]))) 1209 (.inr (8, [.int e, .long v, .int a, .int b]))) 1005 = some (.inr (5, [.ref 1001, .ref 1003, .ref 1006, .ref 1007, .int dp, .int du, .int dn, .int ((sy) + (1)), .int pc9, .ref k, .ref 1208, .ref 1209, .ref 1210])) := (am_up_ne (show 1005 ≠ 1209 from by decide)).trans ((am_up_ne (show 1005 ≠ 1208 from by decide)).trans (am_up_eq _ _ _))
        refine v_get (am_Dk d_Rd_combine (k := 41) rfl) f_Rd_54 m69 rfl ?_
        refine v_iconst (v := 2) (am_Dk d_Rd_combine (k := 42) rfl) (by decide) ?_
        have m70 : (am_up (am_up (am_up M 1005 (.inr (5, [.ref 1001, .ref 1003, .ref 1006, .ref 1007, .int dp, .int du, .int dn, .int ((sy) + (1)), .int pc9, .ref k, .ref 1208, .ref 1209, .ref 1210]))) 1208 (.inr (8, [.int e1, .long v1, .int a1, .int b1]))) 1209 (.inr (8, [.int e, .long v, .int a, .int b]))) 1210 = some (.inr (8, [.int e, .long v, .int a, .int b])) := (am_up_ne (show 1210 ≠ 1209 from by decide)).trans ((am_up_ne (show 1210 ≠ 1208 from by decide)).trans ((am_up_ne (show 1210 ≠ 1005 from by decide)).trans (hl)))
        refine v_callV (rest := []) (As := [.int 2]) (mc' := 0) (ms' := 0) (am_Dk d_Rd_combine (k := 43) rfl) c_Rd_179 (Or.inl ⟨_, _, _, _, _, m70, cq_ok8⟩) (t_Op_fail G (d := 0) (by omega) m70) (by omega) (by omega) (by omega) (by simp [Value.category]) rfl (fun v71 M72 n73 h74 => ?_) (fun _ _ _ h74 => ?_)
        rotate_left
        · exact absurd h74.1 (by simp)
        obtain ⟨h74, e75, e76⟩ := h74
        replace e75 := e75.symm
        replace e76 := e76.symm
        subst e75
        subst e76
        cases h74
        show am_V G _ _ _ _ _ 86 [(0, .ref 1005), (1, .ref k), (2, .int m), (3, .ref y)] [] (am_up (am_up (am_up (am_up M 1005 (.inr (5, [.ref 1001, .ref 1003, .ref 1006, .ref 1007, .int dp, .int du, .int dn, .int ((sy) + (1)), .int pc9, .ref k, .ref 1208, .ref 1209, .ref 1210]))) 1208 (.inr (8, [.int e1, .long v1, .int a1, .int b1]))) 1209 (.inr (8, [.int e, .long v, .int a, .int b]))) 1210 (.inr (8, [.int 2, .long 0, .int 0, .int 0]))) nx 0 0
        exact absurd q2 q3
      · have q3 := c68
        refine v_aload_n (am_Dk d_Rd_combine (k := 34) rfl) rfl ?_
        have m77 : (am_up (am_up (am_up M 1005 (.inr (5, [.ref 1001, .ref 1003, .ref 1006, .ref 1007, .int dp, .int du, .int dn, .int ((sy) + (1)), .int pc9, .ref k, .ref 1208, .ref 1209, .ref 1210]))) 1208 (.inr (8, [.int e1, .long v1, .int a1, .int b1]))) 1209 (.inr (8, [.int e, .long v, .int a, .int b]))) 1005 = some (.inr (5, [.ref 1001, .ref 1003, .ref 1006, .ref 1007, .int dp, .int du, .int dn, .int ((sy) + (1)), .int pc9, .ref k, .ref 1208, .ref 1209, .ref 1210])) := (am_up_ne (show 1005 ≠ 1209 from by decide)).trans ((am_up_ne (show 1005 ≠ 1208 from by decide)).trans (am_up_eq _ _ _))
        refine v_get (am_Dk d_Rd_combine (k := 35) rfl) f_Rd_54 m77 rfl ?_
        refine v_aload_n (am_Dk d_Rd_combine (k := 36) rfl) rfl ?_
        refine v_aload_n (am_Dk d_Rd_combine (k := 37) rfl) rfl ?_
        have m78 : (am_up (am_up (am_up M 1005 (.inr (5, [.ref 1001, .ref 1003, .ref 1006, .ref 1007, .int dp, .int du, .int dn, .int ((sy) + (1)), .int pc9, .ref k, .ref 1208, .ref 1209, .ref 1210]))) 1208 (.inr (8, [.int e1, .long v1, .int a1, .int b1]))) 1209 (.inr (8, [.int e, .long v, .int a, .int b]))) 1210 = some (.inr (8, [.int e, .long v, .int a, .int b])) := (am_up_ne (show 1210 ≠ 1209 from by decide)).trans ((am_up_ne (show 1210 ≠ 1208 from by decide)).trans ((am_up_ne (show 1210 ≠ 1005 from by decide)).trans (hl)))
        have m79 : (am_up (am_up (am_up M 1005 (.inr (5, [.ref 1001, .ref 1003, .ref 1006, .ref 1007, .int dp, .int du, .int dn, .int ((sy) + (1)), .int pc9, .ref k, .ref 1208, .ref 1209, .ref 1210]))) 1208 (.inr (8, [.int e1, .long v1, .int a1, .int b1]))) 1209 (.inr (8, [.int e, .long v, .int a, .int b]))) y = some (.inr (8, [.int e1, .long v1, .int a1, .int b1])) := (am_up_ne (show y ≠ 1209 from by omega)).trans ((am_up_ne (show y ≠ 1208 from by omega)).trans ((am_up_ne (show y ≠ 1005 from by omega)).trans (hy)))
        refine v_callV (rest := []) (As := [.ref k, .ref y]) (mc' := 0) (ms' := 0) (am_Dk d_Rd_combine (k := 38) rfl) c_Rd_287 (Or.inl ⟨_, _, _, _, _, m78, cq_ok8⟩) (t_Op_reckonTwo G (d := 2) (by omega) m78 m79 (show ¬ y = 1210 from by omega) hk) (by omega) (by omega) (by omega) (by simp [Value.category]) rfl (fun v80 M81 n82 h83 => ?_) (fun _ _ _ h83 => ?_)
        rotate_left
        · exact absurd h83.1 (by simp)
        obtain ⟨h83, e84, e85⟩ := h83
        replace e84 := e84.symm
        replace e85 := e85.symm
        subst e84
        subst e85
        cases h83
        show am_V G _ _ _ _ _ 75 [(0, .ref 1005), (1, .ref k), (2, .int m), (3, .ref y)] [] (am_up (am_up (am_up (am_up M 1005 (.inr (5, [.ref 1001, .ref 1003, .ref 1006, .ref 1007, .int dp, .int du, .int dn, .int ((sy) + (1)), .int pc9, .ref k, .ref 1208, .ref 1209, .ref 1210]))) 1208 (.inr (8, [.int e1, .long v1, .int a1, .int b1]))) 1209 (.inr (8, [.int e, .long v, .int a, .int b]))) 1210 (.inr (8, [.int (rk2 k e1 v1 e v).1, .long (rk2 k e1 v1 e v).2, .int 0, .int 0]))) nx 0 0
        refine v_goto (tgt := 86) (am_Dk d_Rd_combine (k := 39) rfl) (by decide) ?_
        exact v_return (am_Dk d_Rd_combine (k := 44) rfl) rfl (by omega) (by omega) ⟨rfl, by rw [cbn, if_neg q1, if_pos q3, if_pos q2], rfl⟩
    · have q1 := c67
      refine v_aload_n (am_Dk d_Rd_combine (k := 26) rfl) rfl ?_
      have m86 : (am_up (am_up (am_up M 1005 (.inr (5, [.ref 1001, .ref 1003, .ref 1006, .ref 1007, .int dp, .int du, .int dn, .int ((sy) + (1)), .int pc9, .ref k, .ref 1208, .ref 1209, .ref 1210]))) 1208 (.inr (8, [.int e1, .long v1, .int a1, .int b1]))) 1209 (.inr (8, [.int e, .long v, .int a, .int b]))) 1005 = some (.inr (5, [.ref 1001, .ref 1003, .ref 1006, .ref 1007, .int dp, .int du, .int dn, .int ((sy) + (1)), .int pc9, .ref k, .ref 1208, .ref 1209, .ref 1210])) := (am_up_ne (show 1005 ≠ 1209 from by decide)).trans ((am_up_ne (show 1005 ≠ 1208 from by decide)).trans (am_up_eq _ _ _))
      refine v_get (am_Dk d_Rd_combine (k := 27) rfl) f_Rd_54 m86 rfl ?_
      refine v_aload_n (am_Dk d_Rd_combine (k := 28) rfl) rfl ?_
      have m87 : (am_up (am_up (am_up M 1005 (.inr (5, [.ref 1001, .ref 1003, .ref 1006, .ref 1007, .int dp, .int du, .int dn, .int ((sy) + (1)), .int pc9, .ref k, .ref 1208, .ref 1209, .ref 1210]))) 1208 (.inr (8, [.int e1, .long v1, .int a1, .int b1]))) 1209 (.inr (8, [.int e, .long v, .int a, .int b]))) 1210 = some (.inr (8, [.int e, .long v, .int a, .int b])) := (am_up_ne (show 1210 ≠ 1209 from by decide)).trans ((am_up_ne (show 1210 ≠ 1208 from by decide)).trans ((am_up_ne (show 1210 ≠ 1005 from by decide)).trans (hl)))
      refine v_callV (rest := []) (As := [.ref k]) (mc' := 0) (ms' := 0) (am_Dk d_Rd_combine (k := 29) rfl) c_Rd_283 (Or.inl ⟨_, _, _, _, _, m87, cq_ok8⟩) (t_Op_reckonOne G (d := 1) (by omega) m87 hk) (by omega) (by omega) (by omega) (by simp [Value.category]) rfl (fun v88 M89 n90 h91 => ?_) (fun _ _ _ h91 => ?_)
      rotate_left
      · exact absurd h91.1 (by simp)
      obtain ⟨h91, e92, e93⟩ := h91
      replace e92 := e92.symm
      replace e93 := e93.symm
      subst e92
      subst e93
      cases h91
      show am_V G _ _ _ _ _ 58 [(0, .ref 1005), (1, .ref k), (2, .int m), (3, .ref y)] [] (am_up (am_up (am_up (am_up M 1005 (.inr (5, [.ref 1001, .ref 1003, .ref 1006, .ref 1007, .int dp, .int du, .int dn, .int ((sy) + (1)), .int pc9, .ref k, .ref 1208, .ref 1209, .ref 1210]))) 1208 (.inr (8, [.int e1, .long v1, .int a1, .int b1]))) 1209 (.inr (8, [.int e, .long v, .int a, .int b]))) 1210 (.inr (8, [.int (rk1 k e v).1, .long (rk1 k e v).2, .int 0, .int 0]))) nx 0 0
      refine v_goto (tgt := 86) (am_Dk d_Rd_combine (k := 30) rfl) (by decide) ?_
      exact absurd (q2.symm.trans q1) (by decide)
