/-! THE LAW'S CALLS (mine; rows laid by the walker) -/
set_option maxRecDepth 20000 in
theorem t_LW_feed (G : am_G) {d nx : Nat} (hd : 7 ≤ d) {M : am_M} {f : Nat → Int32} {g : Nat → Int64} {n : Nat} {pl er p0 p1 p2 p3 p4 : Int32} (h0 : M 1000 = some (.inr (0, [.ref 1001, .ref 1003, .ref 1005, .int pl, .int er]))) (h1 : M 1001 = some (.inr (1, [.ref 1002, .int (nI n)]))) (h2 : M 1002 = some (.inl (0, 4096, .inl f))) (ho : M 1239 = some (.inl (2, 1, .inr (.inl g)))) (hn : n ≤ 4096) (hx : 1240 ≤ nx) : am_Tr G m_LW_feed d 1 6 [.ref 1000, .int p0, .int p1, .int p2, .int p3, .int p4, .ref 1239] M nx (fun r M1 nx1 => (n + 20 ≤ 4096 ∧ r = .inl (some (.int 0)) ∧ M1 = am_up (am_up (am_up M 1002 (.inl (0, 4096, .inl (ap4 (ap4 (ap4 (ap4 (ap4 f n p0) (n + 4) p1) (n + 8) p2) (n + 12) p3) (n + 16) p4)))) 1001 (.inr (1, [.ref 1002, .int (nI (n + 20))]))) 1239 (.inl (2, 1, .inr (.inl (vp_updL g 0 (Int32.toInt64 (nI (n + 20))))))) ∧ nx1 = nx) ∨ (4096 < n + 20 ∧ r = .inl (some (.int 1)) ∧ M1 = am_up M nx (.inr (13, [])) ∧ nx1 = nx + 1)) := by
  refine am_TrOf (by decide) (Nat.le_of_ble_eq_true rfl) ?_
  show am_V G _ _ _ _ _ 0 [(0, .ref 1000), (1, .int p0), (2, .int p1), (3, .int p2), (4, .int p3), (5, .int p4), (6, .ref 1239)] [] M nx 0 0
  refine v_aload (am_Dk d_LW_feed (k := 0) rfl) rfl ?_
  refine v_iconst (v := 0) (am_Dk d_LW_feed (k := 1) rfl) (by decide) ?_
  refine v_aload_n (am_Dk d_LW_feed (k := 2) rfl) rfl ?_
  refine v_iload_n (am_Dk d_LW_feed (k := 3) rfl) rfl ?_
  refine v_iload_n (am_Dk d_LW_feed (k := 4) rfl) rfl ?_
  refine v_iload_n (am_Dk d_LW_feed (k := 5) rfl) rfl ?_
  refine v_iload (am_Dk d_LW_feed (k := 6) rfl) rfl ?_
  refine v_iload (am_Dk d_LW_feed (k := 7) rfl) rfl ?_
  refine v_callV (rest := [.int 0, .ref 1239]) (As := [.int p0, .int p1, .int p2, .int p3, .int p4]) (mc' := 1) (ms' := 6) (am_Dk d_LW_feed (k := 8) rfl) c_LW_7 (Or.inl ⟨_, _, _, _, _, h0, cq_ok0⟩) (t_VR_feed G (d := 6) (by omega) h0 h1 h2 (by omega) (by omega)) (by omega) (by omega) (by omega) (by simp [Value.category]) rfl (fun v1 M2 n3 h4 => ?_) (fun v1 M2 n3 h4 => ?_)
  · rcases h4 with ⟨hc, h4, e1, e2⟩ | ⟨hc, h4, e1, e2⟩
    · cases h4
      replace e1 := e1.symm
      replace e2 := e2.symm
      subst e1
      subst e2
      show am_V G _ _ _ _ _ 14 [(0, .ref 1000), (1, .int p0), (2, .int p1), (3, .int p2), (4, .int p3), (5, .int p4), (6, .ref 1239)] [.int (nI (n + 20)), .int 0, .ref 1239] (am_up (am_up M 1002 (.inl (0, 4096, .inl (ap4 (ap4 (ap4 (ap4 (ap4 f n p0) (n + 4) p1) (n + 8) p2) (n + 12) p3) (n + 16) p4)))) 1001 (.inr (1, [.ref 1002, .int (nI (n + 20))]))) nx 1 6
      refine v_i2l (am_Dk d_LW_feed (k := 9) rfl) rfl ?_
      have m5 : (am_up (am_up M 1002 (.inl (0, 4096, .inl (ap4 (ap4 (ap4 (ap4 (ap4 f n p0) (n + 4) p1) (n + 8) p2) (n + 12) p3) (n + 16) p4)))) 1001 (.inr (1, [.ref 1002, .int (nI (n + 20))]))) 1239 = some (.inl (2, 1, .inr (.inl g))) := (am_up_ne (show 1239 ≠ 1001 from by decide)).trans ((am_up_ne (show 1239 ≠ 1002 from by decide)).trans (ho))
      refine v_last (am_Dk d_LW_feed (k := 10) rfl) m5 rfl (show ¬ (_ ∨ _) from by decide) ?_
      refine v_goto (tgt := 23) (am_Dk d_LW_feed (k := 11) rfl) (by decide) ?_
      refine v_iconst (v := 0) (am_Dk d_LW_feed (k := 15) rfl) (by decide) ?_
      exact v_ireturn (am_Dk d_LW_feed (k := 16) rfl) rfl rfl (by omega) (by omega) (Or.inl ⟨by assumption, rfl, rfl, rfl⟩)
    · cases h4
  · rcases h4 with ⟨hc, h4, e1, e2⟩ | ⟨hc, h4, e1, e2⟩
    · cases h4
    · cases h4
      replace e1 := e1.symm
      replace e2 := e2.symm
      subst e1
      subst e2
      have m6 : (am_up M nx (.inr (13, []))) nx = some (.inr (13, [])) := am_up_eq _ _ _
      refine vt_catch m6 cq_ok13 [] (0, 16, 19, 13) [] rfl (fun _ h => absurd h List.not_mem_nil) ⟨by decide, by decide, "java/lang/IndexOutOfBoundsException", (am_at (k := 282) (by decide +kernel) (by decide +kernel)), (am_at (k := 289) (by decide +kernel) (by decide +kernel))⟩ ?_
      show am_V G _ _ _ _ _ 19 [(0, .ref 1000), (1, .int p0), (2, .int p1), (3, .int p2), (4, .int p3), (5, .int p4), (6, .ref 1239)] [.ref nx] (am_up M nx (.inr (13, []))) (nx + 1) 1 6
      refine v_astore (L1 := [(7, .ref nx), (0, .ref 1000), (1, .int p0), (2, .int p1), (3, .int p2), (4, .int p3), (5, .int p4), (6, .ref 1239)]) (am_Dk d_LW_feed (k := 12) rfl) (by decide) rfl ?_
      refine v_iconst (v := 1) (am_Dk d_LW_feed (k := 13) rfl) (by decide) ?_
      exact v_ireturn (am_Dk d_LW_feed (k := 14) rfl) rfl rfl (by omega) (by omega) (Or.inr ⟨by assumption, rfl, rfl, rfl⟩)
set_option maxRecDepth 20000 in
theorem t_LW_end (G : am_G) {d nx : Nat} (hd : 7 ≤ d) {M : am_M} {g : Nat → Int64} {n : Nat} {pl er k : Int32} (h0 : M 1000 = some (.inr (0, [.ref 1001, .ref 1003, .ref 1005, .int pl, .int er]))) (h1 : M 1001 = some (.inr (1, [.ref 1002, .int (nI n)]))) (ho : M 1239 = some (.inl (2, 1, .inr (.inl g)))) (hn : n ≤ 4096) (hx : 1240 ≤ nx) : am_Tr G m_LW_end d 1 6 [.ref 1000, .int k, .ref 1239] M nx (fun r M1 nx1 => (¬ k < 0 ∧ k ≤ nI n ∧ r = .inl (some (.int 0)) ∧ M1 = am_up (am_up M 1001 (.inr (1, [.ref 1002, .int k]))) 1239 (.inl (2, 1, .inr (.inl (vp_updL g 0 (Int32.toInt64 k))))) ∧ nx1 = nx) ∨ ((k < 0 ∨ ¬ k ≤ nI n) ∧ r = .inl (some (.int 1)) ∧ M1 = am_up M nx (.inr (14, [])) ∧ nx1 = nx + 1)) := by
  refine am_TrOf (by decide) (Nat.le_of_ble_eq_true rfl) ?_
  show am_V G _ _ _ _ _ 0 [(0, .ref 1000), (1, .int k), (2, .ref 1239)] [] M nx 0 0
  refine v_aload_n (am_Dk d_LW_end (k := 0) rfl) rfl ?_
  refine v_iconst (v := 0) (am_Dk d_LW_end (k := 1) rfl) (by decide) ?_
  refine v_aload_n (am_Dk d_LW_end (k := 2) rfl) rfl ?_
  refine v_iload_n (am_Dk d_LW_end (k := 3) rfl) rfl ?_
  refine v_callV (rest := [.int 0, .ref 1239]) (As := [.int k]) (mc' := 1) (ms' := 6) (am_Dk d_LW_end (k := 4) rfl) c_LW_15 (Or.inl ⟨_, _, _, _, _, h0, cq_ok0⟩) (t_VR_end G (d := 6) (by omega) h0 h1 (by omega) (by omega)) (by omega) (by omega) (by omega) (by simp [Value.category]) rfl (fun v1 M2 n3 h4 => ?_) (fun v1 M2 n3 h4 => ?_)
  · rcases h4 with ⟨hc1, hc2, h4, e1, e2⟩ | ⟨hc, h4, e1, e2⟩
    · cases h4
      replace e1 := e1.symm
      replace e2 := e2.symm
      subst e1
      subst e2
      show am_V G _ _ _ _ _ 7 [(0, .ref 1000), (1, .int k), (2, .ref 1239)] [.int k, .int 0, .ref 1239] (am_up M 1001 (.inr (1, [.ref 1002, .int k]))) nx 1 6
      refine v_i2l (am_Dk d_LW_end (k := 5) rfl) rfl ?_
      have m5 : (am_up M 1001 (.inr (1, [.ref 1002, .int k]))) 1239 = some (.inl (2, 1, .inr (.inl g))) := (am_up_ne (show 1239 ≠ 1001 from by decide)).trans (ho)
      refine v_last (am_Dk d_LW_end (k := 6) rfl) m5 rfl (show ¬ (_ ∨ _) from by decide) ?_
      refine v_goto (tgt := 15) (am_Dk d_LW_end (k := 7) rfl) (by decide) ?_
      refine v_iconst (v := 0) (am_Dk d_LW_end (k := 11) rfl) (by decide) ?_
      exact v_ireturn (am_Dk d_LW_end (k := 12) rfl) rfl rfl (by omega) (by omega) (Or.inl ⟨by assumption, by assumption, rfl, rfl, rfl⟩)
    · cases h4
  · rcases h4 with ⟨hc1, hc2, h4, e1, e2⟩ | ⟨hc, h4, e1, e2⟩
    · cases h4
    · cases h4
      replace e1 := e1.symm
      replace e2 := e2.symm
      subst e1
      subst e2
      have m6 : (am_up M nx (.inr (14, []))) nx = some (.inr (14, [])) := am_up_eq _ _ _
      refine vt_catch m6 cq_ok14 [] (0, 9, 12, 19) [] rfl (fun _ h => absurd h List.not_mem_nil) ⟨by decide, by decide, "java/lang/IllegalArgumentException", (am_at (k := 359) (by decide +kernel) (by decide +kernel)), (am_at (k := 366) (by decide +kernel) (by decide +kernel))⟩ ?_
      show am_V G _ _ _ _ _ 12 [(0, .ref 1000), (1, .int k), (2, .ref 1239)] [.ref nx] (am_up M nx (.inr (14, []))) (nx + 1) 1 6
      refine v_astore_n (L1 := [(3, .ref nx), (0, .ref 1000), (1, .int k), (2, .ref 1239)]) (am_Dk d_LW_end (k := 8) rfl) (by decide) rfl ?_
      refine v_iconst (v := 1) (am_Dk d_LW_end (k := 9) rfl) (by decide) ?_
      exact v_ireturn (am_Dk d_LW_end (k := 10) rfl) rfl rfl (by omega) (by omega) (Or.inr ⟨by assumption, rfl, rfl, rfl⟩)
