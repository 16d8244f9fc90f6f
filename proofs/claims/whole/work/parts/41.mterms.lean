/-! THE REFERENCE'S TERMS, MADE (mine; rows laid by the walker) -/
def ARs (M : am_M) (A : Arn) (sz pt : Nat) : Prop := M 1213 = some (.inr (10, [.ref 1214, .ref 1215, .ref 1216, .ref 1217, .ref 1218, .ref 1219, .int (nI sz), .int (nI pt)])) ∧ M 1214 = some (.inl (1, 9000, .inl A.1)) ∧ M 1215 = some (.inl (1, 9000, .inl A.2.1)) ∧ M 1216 = some (.inl (1, 9000, .inl A.2.2.1)) ∧ M 1217 = some (.inl (1, 9000, .inl A.2.2.2.1)) ∧ M 1218 = some (.inl (1, 9000, .inl A.2.2.2.2.1)) ∧ M 1219 = some (.inl (2, 9000, .inr (.inl A.2.2.2.2.2)))
def ptF (P S : Nat → Int32) (pt fr c : Nat) : Nat → Int32 := fun j => if pt ≤ j ∧ j < pt + c then S (fr + (j - pt)) else P j
theorem ptF_1 {P S : Nat → Int32} {pt fr i : Nat} : upd (ptF P S pt fr i) (pt + i) (S (fr + i)) = ptF P S pt fr (i + 1) := by
  funext x
  rw [upd, ptF, ptF]
  by_cases h : x = pt + i
  · rw [if_pos h, if_pos (by omega), h]
    congr 1
    omega
  · rw [if_neg h]
    by_cases h2 : pt ≤ x ∧ x < pt + i
    · rw [if_pos h2, if_pos (by omega)]
    · rw [if_neg h2, if_neg (by omega)]
theorem ptF_0 {P S : Nat → Int32} {pt fr : Nat} : ptF P S pt fr 0 = P := by
  funext x
  rw [ptF, if_neg (by omega)]
set_option maxRecDepth 20000 in
theorem t_MT_variable (G : am_G) {d nx : Nat} (hd : 0 ≤ d) {M : am_M} {sz pt : Nat} {Kd Nm Fi Ma Pa : Nat → Int32} {Nu : Nat → Int64} (hA : ARs M (Kd, Nm, Fi, Ma, Pa, Nu) sz pt) (hsz : sz < 9000) {v : Int32} : am_Tr G m_MT_variable d 0 0 [.ref 1213, .int v] M nx (fun r M1 nx1 => r = .inl (some (.int (nI sz))) ∧ ARs M1 (upd Kd sz 0, upd Nm sz v, Fi, upd Ma sz 0, Pa, Nu) (sz + 1) pt ∧ (∀ i, i < 1213 ∨ 1219 < i → M1 i = M i) ∧ nx1 = nx) := by
  refine am_TrOf (by decide) (Nat.le_of_ble_eq_true rfl) ?_
  show am_V G _ _ _ _ _ 0 [(0, .ref 1213), (1, .int v)] [] M nx 0 0
  refine v_aload_n (am_Dk d_MT_variable (k := 0) rfl) rfl ?_
  refine v_get (am_Dk d_MT_variable (k := 1) rfl) f_MT_9 hA.1 rfl ?_
  refine v_aload_n (am_Dk d_MT_variable (k := 2) rfl) rfl ?_
  refine v_get (am_Dk d_MT_variable (k := 3) rfl) f_MT_31 hA.1 rfl ?_
  refine v_iconst (v := 0) (am_Dk d_MT_variable (k := 4) rfl) (by decide) ?_
  refine v_iast (am_Dk d_MT_variable (k := 5) rfl) hA.2.1 rfl (vp_in_nI (by omega) (by omega)) ?_
  rw [nI_clamp (n := sz) (by omega)]
  refine v_aload_n (am_Dk d_MT_variable (k := 6) rfl) rfl ?_
  have m1 : (am_up M 1214 (.inl (1, 9000, .inl (upd Kd (sz) 0)))) 1213 = some (.inr (10, [.ref 1214, .ref 1215, .ref 1216, .ref 1217, .ref 1218, .ref 1219, .int (nI sz), .int (nI pt)])) := (am_up_ne (show 1213 ≠ 1214 from by decide)).trans (hA.1)
  refine v_get (am_Dk d_MT_variable (k := 7) rfl) f_MT_15 m1 rfl ?_
  refine v_aload_n (am_Dk d_MT_variable (k := 8) rfl) rfl ?_
  refine v_get (am_Dk d_MT_variable (k := 9) rfl) f_MT_31 m1 rfl ?_
  refine v_iload_n (am_Dk d_MT_variable (k := 10) rfl) rfl ?_
  have m2 : (am_up M 1214 (.inl (1, 9000, .inl (upd Kd (sz) 0)))) 1215 = some (.inl (1, 9000, .inl Nm)) := (am_up_ne (show 1215 ≠ 1214 from by decide)).trans (hA.2.2.1)
  refine v_iast (am_Dk d_MT_variable (k := 11) rfl) m2 rfl (vp_in_nI (by omega) (by omega)) ?_
  rw [nI_clamp (n := sz) (by omega)]
  refine v_aload_n (am_Dk d_MT_variable (k := 12) rfl) rfl ?_
  have m3 : (am_up (am_up M 1214 (.inl (1, 9000, .inl (upd Kd (sz) 0)))) 1215 (.inl (1, 9000, .inl (upd Nm (sz) v)))) 1213 = some (.inr (10, [.ref 1214, .ref 1215, .ref 1216, .ref 1217, .ref 1218, .ref 1219, .int (nI sz), .int (nI pt)])) := (am_up_ne (show 1213 ≠ 1215 from by decide)).trans ((am_up_ne (show 1213 ≠ 1214 from by decide)).trans (hA.1))
  refine v_get (am_Dk d_MT_variable (k := 13) rfl) f_MT_21 m3 rfl ?_
  refine v_aload_n (am_Dk d_MT_variable (k := 14) rfl) rfl ?_
  refine v_get (am_Dk d_MT_variable (k := 15) rfl) f_MT_31 m3 rfl ?_
  refine v_iconst (v := 0) (am_Dk d_MT_variable (k := 16) rfl) (by decide) ?_
  have m4 : (am_up (am_up M 1214 (.inl (1, 9000, .inl (upd Kd (sz) 0)))) 1215 (.inl (1, 9000, .inl (upd Nm (sz) v)))) 1217 = some (.inl (1, 9000, .inl Ma)) := (am_up_ne (show 1217 ≠ 1215 from by decide)).trans ((am_up_ne (show 1217 ≠ 1214 from by decide)).trans (hA.2.2.2.2.1))
  refine v_iast (am_Dk d_MT_variable (k := 17) rfl) m4 rfl (vp_in_nI (by omega) (by omega)) ?_
  rw [nI_clamp (n := sz) (by omega)]
  refine v_aload_n (am_Dk d_MT_variable (k := 18) rfl) rfl ?_
  refine v_dup (am_Dk d_MT_variable (k := 19) rfl) rfl ?_
  have m5 : (am_up (am_up (am_up M 1214 (.inl (1, 9000, .inl (upd Kd (sz) 0)))) 1215 (.inl (1, 9000, .inl (upd Nm (sz) v)))) 1217 (.inl (1, 9000, .inl (upd Ma (sz) 0)))) 1213 = some (.inr (10, [.ref 1214, .ref 1215, .ref 1216, .ref 1217, .ref 1218, .ref 1219, .int (nI sz), .int (nI pt)])) := (am_up_ne (show 1213 ≠ 1217 from by decide)).trans ((am_up_ne (show 1213 ≠ 1215 from by decide)).trans ((am_up_ne (show 1213 ≠ 1214 from by decide)).trans (hA.1)))
  refine v_get (am_Dk d_MT_variable (k := 20) rfl) f_MT_31 m5 rfl ?_
  refine v_dup_x1 (am_Dk d_MT_variable (k := 21) rfl) rfl rfl ?_
  refine v_iconst (v := 1) (am_Dk d_MT_variable (k := 22) rfl) (by decide) ?_
  refine v_iadd (am_Dk d_MT_variable (k := 23) rfl) ?_
  rw [nI_1]
  refine v_put (am_Dk d_MT_variable (k := 24) rfl) f_MT_31 m5 (Nat.le_of_ble_eq_true rfl) rfl rfl ?_
  exact v_ireturn (am_Dk d_MT_variable (k := 25) rfl) rfl rfl (by omega) (by omega) ⟨rfl, ⟨am_up_eq _ _ _, (am_up_ne (show 1214 ≠ 1213 from by decide)).trans ((am_up_ne (show 1214 ≠ 1217 from by decide)).trans ((am_up_ne (show 1214 ≠ 1215 from by decide)).trans (am_up_eq _ _ _))), (am_up_ne (show 1215 ≠ 1213 from by decide)).trans ((am_up_ne (show 1215 ≠ 1217 from by decide)).trans (am_up_eq _ _ _)), (am_up_ne (show 1216 ≠ 1213 from by decide)).trans ((am_up_ne (show 1216 ≠ 1217 from by decide)).trans ((am_up_ne (show 1216 ≠ 1215 from by decide)).trans ((am_up_ne (show 1216 ≠ 1214 from by decide)).trans (hA.2.2.2.1)))), (am_up_ne (show 1217 ≠ 1213 from by decide)).trans (am_up_eq _ _ _), (am_up_ne (show 1218 ≠ 1213 from by decide)).trans ((am_up_ne (show 1218 ≠ 1217 from by decide)).trans ((am_up_ne (show 1218 ≠ 1215 from by decide)).trans ((am_up_ne (show 1218 ≠ 1214 from by decide)).trans (hA.2.2.2.2.2.1)))), (am_up_ne (show 1219 ≠ 1213 from by decide)).trans ((am_up_ne (show 1219 ≠ 1217 from by decide)).trans ((am_up_ne (show 1219 ≠ 1215 from by decide)).trans ((am_up_ne (show 1219 ≠ 1214 from by decide)).trans (hA.2.2.2.2.2.2))))⟩, fun i hi => (am_up_ne (show i ≠ 1213 from by omega)).trans ((am_up_ne (show i ≠ 1217 from by omega)).trans ((am_up_ne (show i ≠ 1215 from by omega)).trans ((am_up_ne (show i ≠ 1214 from by omega)).trans (rfl)))), rfl⟩
set_option maxRecDepth 20000 in
theorem t_MT_integer (G : am_G) {d nx : Nat} (hd : 0 ≤ d) {M : am_M} {sz pt : Nat} {Kd Nm Fi Ma Pa : Nat → Int32} {Nu : Nat → Int64} (hA : ARs M (Kd, Nm, Fi, Ma, Pa, Nu) sz pt) (hsz : sz < 9000) {v : Int64} : am_Tr G m_MT_integer d 0 0 [.ref 1213, .long v] M nx (fun r M1 nx1 => r = .inl (some (.int (nI sz))) ∧ ARs M1 (upd Kd sz 1, Nm, Fi, upd Ma sz 0, Pa, vp_updL Nu sz v) (sz + 1) pt ∧ (∀ i, i < 1213 ∨ 1219 < i → M1 i = M i) ∧ nx1 = nx) := by
  refine am_TrOf (by decide) (Nat.le_of_ble_eq_true rfl) ?_
  show am_V G _ _ _ _ _ 0 [(0, .ref 1213), (1, .long v)] [] M nx 0 0
  refine v_aload_n (am_Dk d_MT_integer (k := 0) rfl) rfl ?_
  refine v_get (am_Dk d_MT_integer (k := 1) rfl) f_MT_9 hA.1 rfl ?_
  refine v_aload_n (am_Dk d_MT_integer (k := 2) rfl) rfl ?_
  refine v_get (am_Dk d_MT_integer (k := 3) rfl) f_MT_31 hA.1 rfl ?_
  refine v_iconst (v := 1) (am_Dk d_MT_integer (k := 4) rfl) (by decide) ?_
  refine v_iast (am_Dk d_MT_integer (k := 5) rfl) hA.2.1 rfl (vp_in_nI (by omega) (by omega)) ?_
  rw [nI_clamp (n := sz) (by omega)]
  refine v_aload_n (am_Dk d_MT_integer (k := 6) rfl) rfl ?_
  have m1 : (am_up M 1214 (.inl (1, 9000, .inl (upd Kd (sz) 1)))) 1213 = some (.inr (10, [.ref 1214, .ref 1215, .ref 1216, .ref 1217, .ref 1218, .ref 1219, .int (nI sz), .int (nI pt)])) := (am_up_ne (show 1213 ≠ 1214 from by decide)).trans (hA.1)
  refine v_get (am_Dk d_MT_integer (k := 7) rfl) f_MT_27 m1 rfl ?_
  refine v_aload_n (am_Dk d_MT_integer (k := 8) rfl) rfl ?_
  refine v_get (am_Dk d_MT_integer (k := 9) rfl) f_MT_31 m1 rfl ?_
  refine v_lload_n (am_Dk d_MT_integer (k := 10) rfl) rfl ?_
  have m2 : (am_up M 1214 (.inl (1, 9000, .inl (upd Kd (sz) 1)))) 1219 = some (.inl (2, 9000, .inr (.inl Nu))) := (am_up_ne (show 1219 ≠ 1214 from by decide)).trans (hA.2.2.2.2.2.2)
  refine v_last (am_Dk d_MT_integer (k := 11) rfl) m2 rfl (vp_in_nI (by omega) (by omega)) ?_
  rw [nI_clamp (n := sz) (by omega)]
  refine v_aload_n (am_Dk d_MT_integer (k := 12) rfl) rfl ?_
  have m3 : (am_up (am_up M 1214 (.inl (1, 9000, .inl (upd Kd (sz) 1)))) 1219 (.inl (2, 9000, .inr (.inl (vp_updL Nu (sz) v))))) 1213 = some (.inr (10, [.ref 1214, .ref 1215, .ref 1216, .ref 1217, .ref 1218, .ref 1219, .int (nI sz), .int (nI pt)])) := (am_up_ne (show 1213 ≠ 1219 from by decide)).trans ((am_up_ne (show 1213 ≠ 1214 from by decide)).trans (hA.1))
  refine v_get (am_Dk d_MT_integer (k := 13) rfl) f_MT_21 m3 rfl ?_
  refine v_aload_n (am_Dk d_MT_integer (k := 14) rfl) rfl ?_
  refine v_get (am_Dk d_MT_integer (k := 15) rfl) f_MT_31 m3 rfl ?_
  refine v_iconst (v := 0) (am_Dk d_MT_integer (k := 16) rfl) (by decide) ?_
  have m4 : (am_up (am_up M 1214 (.inl (1, 9000, .inl (upd Kd (sz) 1)))) 1219 (.inl (2, 9000, .inr (.inl (vp_updL Nu (sz) v))))) 1217 = some (.inl (1, 9000, .inl Ma)) := (am_up_ne (show 1217 ≠ 1219 from by decide)).trans ((am_up_ne (show 1217 ≠ 1214 from by decide)).trans (hA.2.2.2.2.1))
  refine v_iast (am_Dk d_MT_integer (k := 17) rfl) m4 rfl (vp_in_nI (by omega) (by omega)) ?_
  rw [nI_clamp (n := sz) (by omega)]
  refine v_aload_n (am_Dk d_MT_integer (k := 18) rfl) rfl ?_
  refine v_dup (am_Dk d_MT_integer (k := 19) rfl) rfl ?_
  have m5 : (am_up (am_up (am_up M 1214 (.inl (1, 9000, .inl (upd Kd (sz) 1)))) 1219 (.inl (2, 9000, .inr (.inl (vp_updL Nu (sz) v))))) 1217 (.inl (1, 9000, .inl (upd Ma (sz) 0)))) 1213 = some (.inr (10, [.ref 1214, .ref 1215, .ref 1216, .ref 1217, .ref 1218, .ref 1219, .int (nI sz), .int (nI pt)])) := (am_up_ne (show 1213 ≠ 1217 from by decide)).trans ((am_up_ne (show 1213 ≠ 1219 from by decide)).trans ((am_up_ne (show 1213 ≠ 1214 from by decide)).trans (hA.1)))
  refine v_get (am_Dk d_MT_integer (k := 20) rfl) f_MT_31 m5 rfl ?_
  refine v_dup_x1 (am_Dk d_MT_integer (k := 21) rfl) rfl rfl ?_
  refine v_iconst (v := 1) (am_Dk d_MT_integer (k := 22) rfl) (by decide) ?_
  refine v_iadd (am_Dk d_MT_integer (k := 23) rfl) ?_
  rw [nI_1]
  refine v_put (am_Dk d_MT_integer (k := 24) rfl) f_MT_31 m5 (Nat.le_of_ble_eq_true rfl) rfl rfl ?_
  exact v_ireturn (am_Dk d_MT_integer (k := 25) rfl) rfl rfl (by omega) (by omega) ⟨rfl, ⟨am_up_eq _ _ _, (am_up_ne (show 1214 ≠ 1213 from by decide)).trans ((am_up_ne (show 1214 ≠ 1217 from by decide)).trans ((am_up_ne (show 1214 ≠ 1219 from by decide)).trans (am_up_eq _ _ _))), (am_up_ne (show 1215 ≠ 1213 from by decide)).trans ((am_up_ne (show 1215 ≠ 1217 from by decide)).trans ((am_up_ne (show 1215 ≠ 1219 from by decide)).trans ((am_up_ne (show 1215 ≠ 1214 from by decide)).trans (hA.2.2.1)))), (am_up_ne (show 1216 ≠ 1213 from by decide)).trans ((am_up_ne (show 1216 ≠ 1217 from by decide)).trans ((am_up_ne (show 1216 ≠ 1219 from by decide)).trans ((am_up_ne (show 1216 ≠ 1214 from by decide)).trans (hA.2.2.2.1)))), (am_up_ne (show 1217 ≠ 1213 from by decide)).trans (am_up_eq _ _ _), (am_up_ne (show 1218 ≠ 1213 from by decide)).trans ((am_up_ne (show 1218 ≠ 1217 from by decide)).trans ((am_up_ne (show 1218 ≠ 1219 from by decide)).trans ((am_up_ne (show 1218 ≠ 1214 from by decide)).trans (hA.2.2.2.2.2.1)))), (am_up_ne (show 1219 ≠ 1213 from by decide)).trans ((am_up_ne (show 1219 ≠ 1217 from by decide)).trans (am_up_eq _ _ _))⟩, fun i hi => (am_up_ne (show i ≠ 1213 from by omega)).trans ((am_up_ne (show i ≠ 1217 from by omega)).trans ((am_up_ne (show i ≠ 1219 from by omega)).trans ((am_up_ne (show i ≠ 1214 from by omega)).trans (rfl)))), rfl⟩
set_option maxRecDepth 20000 in
theorem t_MT_atom (G : am_G) {d nx : Nat} (hd : 0 ≤ d) {M : am_M} {sz pt : Nat} {Kd Nm Fi Ma Pa : Nat → Int32} {Nu : Nat → Int64} (hA : ARs M (Kd, Nm, Fi, Ma, Pa, Nu) sz pt) (hsz : sz < 9000) {v : Int32} : am_Tr G m_MT_atom d 0 0 [.ref 1213, .int v] M nx (fun r M1 nx1 => r = .inl (some (.int (nI sz))) ∧ ARs M1 (upd Kd sz 2, upd Nm sz v, Fi, upd Ma sz 0, Pa, Nu) (sz + 1) pt ∧ (∀ i, i < 1213 ∨ 1219 < i → M1 i = M i) ∧ nx1 = nx) := by
  refine am_TrOf (by decide) (Nat.le_of_ble_eq_true rfl) ?_
  show am_V G _ _ _ _ _ 0 [(0, .ref 1213), (1, .int v)] [] M nx 0 0
  refine v_aload_n (am_Dk d_MT_atom (k := 0) rfl) rfl ?_
  refine v_get (am_Dk d_MT_atom (k := 1) rfl) f_MT_9 hA.1 rfl ?_
  refine v_aload_n (am_Dk d_MT_atom (k := 2) rfl) rfl ?_
  refine v_get (am_Dk d_MT_atom (k := 3) rfl) f_MT_31 hA.1 rfl ?_
  refine v_iconst (v := 2) (am_Dk d_MT_atom (k := 4) rfl) (by decide) ?_
  refine v_iast (am_Dk d_MT_atom (k := 5) rfl) hA.2.1 rfl (vp_in_nI (by omega) (by omega)) ?_
  rw [nI_clamp (n := sz) (by omega)]
  refine v_aload_n (am_Dk d_MT_atom (k := 6) rfl) rfl ?_
  have m1 : (am_up M 1214 (.inl (1, 9000, .inl (upd Kd (sz) 2)))) 1213 = some (.inr (10, [.ref 1214, .ref 1215, .ref 1216, .ref 1217, .ref 1218, .ref 1219, .int (nI sz), .int (nI pt)])) := (am_up_ne (show 1213 ≠ 1214 from by decide)).trans (hA.1)
  refine v_get (am_Dk d_MT_atom (k := 7) rfl) f_MT_15 m1 rfl ?_
  refine v_aload_n (am_Dk d_MT_atom (k := 8) rfl) rfl ?_
  refine v_get (am_Dk d_MT_atom (k := 9) rfl) f_MT_31 m1 rfl ?_
  refine v_iload_n (am_Dk d_MT_atom (k := 10) rfl) rfl ?_
  have m2 : (am_up M 1214 (.inl (1, 9000, .inl (upd Kd (sz) 2)))) 1215 = some (.inl (1, 9000, .inl Nm)) := (am_up_ne (show 1215 ≠ 1214 from by decide)).trans (hA.2.2.1)
  refine v_iast (am_Dk d_MT_atom (k := 11) rfl) m2 rfl (vp_in_nI (by omega) (by omega)) ?_
  rw [nI_clamp (n := sz) (by omega)]
  refine v_aload_n (am_Dk d_MT_atom (k := 12) rfl) rfl ?_
  have m3 : (am_up (am_up M 1214 (.inl (1, 9000, .inl (upd Kd (sz) 2)))) 1215 (.inl (1, 9000, .inl (upd Nm (sz) v)))) 1213 = some (.inr (10, [.ref 1214, .ref 1215, .ref 1216, .ref 1217, .ref 1218, .ref 1219, .int (nI sz), .int (nI pt)])) := (am_up_ne (show 1213 ≠ 1215 from by decide)).trans ((am_up_ne (show 1213 ≠ 1214 from by decide)).trans (hA.1))
  refine v_get (am_Dk d_MT_atom (k := 13) rfl) f_MT_21 m3 rfl ?_
  refine v_aload_n (am_Dk d_MT_atom (k := 14) rfl) rfl ?_
  refine v_get (am_Dk d_MT_atom (k := 15) rfl) f_MT_31 m3 rfl ?_
  refine v_iconst (v := 0) (am_Dk d_MT_atom (k := 16) rfl) (by decide) ?_
  have m4 : (am_up (am_up M 1214 (.inl (1, 9000, .inl (upd Kd (sz) 2)))) 1215 (.inl (1, 9000, .inl (upd Nm (sz) v)))) 1217 = some (.inl (1, 9000, .inl Ma)) := (am_up_ne (show 1217 ≠ 1215 from by decide)).trans ((am_up_ne (show 1217 ≠ 1214 from by decide)).trans (hA.2.2.2.2.1))
  refine v_iast (am_Dk d_MT_atom (k := 17) rfl) m4 rfl (vp_in_nI (by omega) (by omega)) ?_
  rw [nI_clamp (n := sz) (by omega)]
  refine v_aload_n (am_Dk d_MT_atom (k := 18) rfl) rfl ?_
  refine v_dup (am_Dk d_MT_atom (k := 19) rfl) rfl ?_
  have m5 : (am_up (am_up (am_up M 1214 (.inl (1, 9000, .inl (upd Kd (sz) 2)))) 1215 (.inl (1, 9000, .inl (upd Nm (sz) v)))) 1217 (.inl (1, 9000, .inl (upd Ma (sz) 0)))) 1213 = some (.inr (10, [.ref 1214, .ref 1215, .ref 1216, .ref 1217, .ref 1218, .ref 1219, .int (nI sz), .int (nI pt)])) := (am_up_ne (show 1213 ≠ 1217 from by decide)).trans ((am_up_ne (show 1213 ≠ 1215 from by decide)).trans ((am_up_ne (show 1213 ≠ 1214 from by decide)).trans (hA.1)))
  refine v_get (am_Dk d_MT_atom (k := 20) rfl) f_MT_31 m5 rfl ?_
  refine v_dup_x1 (am_Dk d_MT_atom (k := 21) rfl) rfl rfl ?_
  refine v_iconst (v := 1) (am_Dk d_MT_atom (k := 22) rfl) (by decide) ?_
  refine v_iadd (am_Dk d_MT_atom (k := 23) rfl) ?_
  rw [nI_1]
  refine v_put (am_Dk d_MT_atom (k := 24) rfl) f_MT_31 m5 (Nat.le_of_ble_eq_true rfl) rfl rfl ?_
  exact v_ireturn (am_Dk d_MT_atom (k := 25) rfl) rfl rfl (by omega) (by omega) ⟨rfl, ⟨am_up_eq _ _ _, (am_up_ne (show 1214 ≠ 1213 from by decide)).trans ((am_up_ne (show 1214 ≠ 1217 from by decide)).trans ((am_up_ne (show 1214 ≠ 1215 from by decide)).trans (am_up_eq _ _ _))), (am_up_ne (show 1215 ≠ 1213 from by decide)).trans ((am_up_ne (show 1215 ≠ 1217 from by decide)).trans (am_up_eq _ _ _)), (am_up_ne (show 1216 ≠ 1213 from by decide)).trans ((am_up_ne (show 1216 ≠ 1217 from by decide)).trans ((am_up_ne (show 1216 ≠ 1215 from by decide)).trans ((am_up_ne (show 1216 ≠ 1214 from by decide)).trans (hA.2.2.2.1)))), (am_up_ne (show 1217 ≠ 1213 from by decide)).trans (am_up_eq _ _ _), (am_up_ne (show 1218 ≠ 1213 from by decide)).trans ((am_up_ne (show 1218 ≠ 1217 from by decide)).trans ((am_up_ne (show 1218 ≠ 1215 from by decide)).trans ((am_up_ne (show 1218 ≠ 1214 from by decide)).trans (hA.2.2.2.2.2.1)))), (am_up_ne (show 1219 ≠ 1213 from by decide)).trans ((am_up_ne (show 1219 ≠ 1217 from by decide)).trans ((am_up_ne (show 1219 ≠ 1215 from by decide)).trans ((am_up_ne (show 1219 ≠ 1214 from by decide)).trans (hA.2.2.2.2.2.2))))⟩, fun i hi => (am_up_ne (show i ≠ 1213 from by omega)).trans ((am_up_ne (show i ≠ 1217 from by omega)).trans ((am_up_ne (show i ≠ 1215 from by omega)).trans ((am_up_ne (show i ≠ 1214 from by omega)).trans (rfl)))), rfl⟩
set_option maxRecDepth 20000 in
theorem t_MT_compound (G : am_G) {d nx : Nat} (hd : 0 ≤ d) {M : am_M} {sz pt : Nat} {Kd Nm Fi Ma Pa : Nat → Int32} {Nu : Nat → Int64} (hA : ARs M (Kd, Nm, Fi, Ma, Pa, Nu) sz pt) (hsz : sz < 9000) {fr c : Nat} {Sk : Nat → Int32} {v : Int32} (hS : M 1230 = some (.inl (1, 4200, .inl Sk))) (hc : c ≤ 8) (hfr : fr + c ≤ 4200) (hpt : pt + c ≤ 9000) : am_Tr G m_MT_compound d 0 0 [.ref 1213, .int v, .ref 1230, .int (nI fr), .int (nI c)] M nx (fun r M1 nx1 => r = .inl (some (.int (nI sz))) ∧ ARs M1 (upd Kd sz 2, upd Nm sz v, upd Fi sz (nI pt), upd Ma sz (nI c), ptF Pa Sk pt fr c, Nu) (sz + 1) (pt + c) ∧ (∀ i, i < 1213 ∨ 1219 < i → M1 i = M i) ∧ nx1 = nx) := by
  refine am_TrOf (by decide) (Nat.le_of_ble_eq_true rfl) ?_
  show am_V G _ _ _ _ _ 0 [(0, .ref 1213), (1, .int v), (2, .ref 1230), (3, .int (nI fr)), (4, .int (nI c))] [] M nx 0 0
  have hlp : ∀ m i, i + m = c → am_V G m_MT_compound d 0 0 (fun r M1 nx1 => r = .inl (some (.int (nI sz))) ∧ ARs M1 (upd Kd sz 2, upd Nm sz v, upd Fi sz (nI pt), upd Ma sz (nI c), ptF Pa Sk pt fr c, Nu) (sz + 1) (pt + c) ∧ (∀ i, i < 1213 ∨ 1219 < i → M1 i = M i) ∧ nx1 = nx) 47 [(5, .int (nI i)), (0, .ref 1213), (1, .int v), (2, .ref 1230), (3, .int (nI fr)), (4, .int (nI c))] [] (am_up (am_up (am_up (am_up (am_up (am_up M 1214 (.inl (1, 9000, .inl (upd Kd sz 2)))) 1215 (.inl (1, 9000, .inl (upd Nm sz v)))) 1217 (.inl (1, 9000, .inl (upd Ma sz (nI c))))) 1216 (.inl (1, 9000, .inl (upd Fi sz (nI pt))))) 1218 (.inl (1, 9000, .inl (ptF Pa Sk pt fr i)))) 1213 (.inr (10, [.ref 1214, .ref 1215, .ref 1216, .ref 1217, .ref 1218, .ref 1219, .int (nI sz), .int (nI (pt + i))]))) nx 0 0 := by
    intro m
    induction m with
    | zero =>
      intro i him
      refine v_iload (am_Dk d_MT_compound (k := 27) rfl) rfl ?_
      refine v_iload (am_Dk d_MT_compound (k := 28) rfl) rfl ?_
      refine v_icmp_ge (tgt := 85) (am_Dk d_MT_compound (k := 29) rfl) (by decide) (fun c1 => ?_) (fun c1 => ?_)
      · have Nc1 := (nI_leI (a := c) (b := i) (by omega) (by omega)).mp c1
        refine v_aload_n (am_Dk d_MT_compound (k := 48) rfl) rfl ?_
        refine v_dup (am_Dk d_MT_compound (k := 49) rfl) rfl ?_
        have m2 : (am_up (am_up (am_up (am_up (am_up (am_up M 1214 (.inl (1, 9000, .inl (upd Kd sz 2)))) 1215 (.inl (1, 9000, .inl (upd Nm sz v)))) 1217 (.inl (1, 9000, .inl (upd Ma sz (nI c))))) 1216 (.inl (1, 9000, .inl (upd Fi sz (nI pt))))) 1218 (.inl (1, 9000, .inl (ptF Pa Sk pt fr i)))) 1213 (.inr (10, [.ref 1214, .ref 1215, .ref 1216, .ref 1217, .ref 1218, .ref 1219, .int (nI sz), .int (nI (pt + i))]))) 1213 = some (.inr (10, [.ref 1214, .ref 1215, .ref 1216, .ref 1217, .ref 1218, .ref 1219, .int (nI sz), .int (nI (pt + i))])) := am_up_eq _ _ _
        refine v_get (am_Dk d_MT_compound (k := 50) rfl) f_MT_31 m2 rfl ?_
        refine v_dup_x1 (am_Dk d_MT_compound (k := 51) rfl) rfl rfl ?_
        refine v_iconst (v := 1) (am_Dk d_MT_compound (k := 52) rfl) (by decide) ?_
        refine v_iadd (am_Dk d_MT_compound (k := 53) rfl) ?_
        rw [nI_1]
        refine v_put (am_Dk d_MT_compound (k := 54) rfl) f_MT_31 m2 (Nat.le_of_ble_eq_true rfl) rfl rfl ?_
        rw [am_uu0 (a := 1213)]
        obtain rfl : c = i := by omega
        exact v_ireturn (am_Dk d_MT_compound (k := 55) rfl) rfl rfl (by omega) (by omega) ⟨rfl, ⟨am_up_eq _ _ _, (am_up_ne (show 1214 ≠ 1213 from by decide)).trans ((am_up_ne (show 1214 ≠ 1218 from by decide)).trans ((am_up_ne (show 1214 ≠ 1216 from by decide)).trans ((am_up_ne (show 1214 ≠ 1217 from by decide)).trans ((am_up_ne (show 1214 ≠ 1215 from by decide)).trans (am_up_eq _ _ _))))), (am_up_ne (show 1215 ≠ 1213 from by decide)).trans ((am_up_ne (show 1215 ≠ 1218 from by decide)).trans ((am_up_ne (show 1215 ≠ 1216 from by decide)).trans ((am_up_ne (show 1215 ≠ 1217 from by decide)).trans (am_up_eq _ _ _)))), (am_up_ne (show 1216 ≠ 1213 from by decide)).trans ((am_up_ne (show 1216 ≠ 1218 from by decide)).trans (am_up_eq _ _ _)), (am_up_ne (show 1217 ≠ 1213 from by decide)).trans ((am_up_ne (show 1217 ≠ 1218 from by decide)).trans ((am_up_ne (show 1217 ≠ 1216 from by decide)).trans (am_up_eq _ _ _))), (am_up_ne (show 1218 ≠ 1213 from by decide)).trans (am_up_eq _ _ _), (am_up_ne (show 1219 ≠ 1213 from by decide)).trans ((am_up_ne (show 1219 ≠ 1218 from by decide)).trans ((am_up_ne (show 1219 ≠ 1216 from by decide)).trans ((am_up_ne (show 1219 ≠ 1217 from by decide)).trans ((am_up_ne (show 1219 ≠ 1215 from by decide)).trans ((am_up_ne (show 1219 ≠ 1214 from by decide)).trans (hA.2.2.2.2.2.2))))))⟩, fun i hi => (am_up_ne (show i ≠ 1213 from by omega)).trans ((am_up_ne (show i ≠ 1218 from by omega)).trans ((am_up_ne (show i ≠ 1216 from by omega)).trans ((am_up_ne (show i ≠ 1217 from by omega)).trans ((am_up_ne (show i ≠ 1215 from by omega)).trans ((am_up_ne (show i ≠ 1214 from by omega)).trans (rfl)))))), rfl⟩
      · have Nc1 : ¬ c ≤ i := fun z => c1 ((nI_leI (a := c) (b := i) (by omega) (by omega)).mpr z)
        exfalso
        omega
    | succ m ih =>
      intro i him
      refine v_iload (am_Dk d_MT_compound (k := 27) rfl) rfl ?_
      refine v_iload (am_Dk d_MT_compound (k := 28) rfl) rfl ?_
      refine v_icmp_ge (tgt := 85) (am_Dk d_MT_compound (k := 29) rfl) (by decide) (fun c1 => ?_) (fun c1 => ?_)
      · have Nc1 := (nI_leI (a := c) (b := i) (by omega) (by omega)).mp c1
        exfalso
        omega
      · have Nc1 : ¬ c ≤ i := fun z => c1 ((nI_leI (a := c) (b := i) (by omega) (by omega)).mpr z)
        refine v_aload_n (am_Dk d_MT_compound (k := 30) rfl) rfl ?_
        have m2 : (am_up (am_up (am_up (am_up (am_up (am_up M 1214 (.inl (1, 9000, .inl (upd Kd sz 2)))) 1215 (.inl (1, 9000, .inl (upd Nm sz v)))) 1217 (.inl (1, 9000, .inl (upd Ma sz (nI c))))) 1216 (.inl (1, 9000, .inl (upd Fi sz (nI pt))))) 1218 (.inl (1, 9000, .inl (ptF Pa Sk pt fr i)))) 1213 (.inr (10, [.ref 1214, .ref 1215, .ref 1216, .ref 1217, .ref 1218, .ref 1219, .int (nI sz), .int (nI (pt + i))]))) 1213 = some (.inr (10, [.ref 1214, .ref 1215, .ref 1216, .ref 1217, .ref 1218, .ref 1219, .int (nI sz), .int (nI (pt + i))])) := am_up_eq _ _ _
        refine v_get (am_Dk d_MT_compound (k := 31) rfl) f_MT_24 m2 rfl ?_
        refine v_aload_n (am_Dk d_MT_compound (k := 32) rfl) rfl ?_
        refine v_get (am_Dk d_MT_compound (k := 33) rfl) f_MT_35 m2 rfl ?_
        refine v_aload_n (am_Dk d_MT_compound (k := 34) rfl) rfl ?_
        refine v_iload_n (am_Dk d_MT_compound (k := 35) rfl) rfl ?_
        refine v_iload (am_Dk d_MT_compound (k := 36) rfl) rfl ?_
        refine v_iadd (am_Dk d_MT_compound (k := 37) rfl) ?_
        rw [nI_add]
        have m3 : (am_up (am_up (am_up (am_up (am_up (am_up M 1214 (.inl (1, 9000, .inl (upd Kd sz 2)))) 1215 (.inl (1, 9000, .inl (upd Nm sz v)))) 1217 (.inl (1, 9000, .inl (upd Ma sz (nI c))))) 1216 (.inl (1, 9000, .inl (upd Fi sz (nI pt))))) 1218 (.inl (1, 9000, .inl (ptF Pa Sk pt fr i)))) 1213 (.inr (10, [.ref 1214, .ref 1215, .ref 1216, .ref 1217, .ref 1218, .ref 1219, .int (nI sz), .int (nI (pt + i))]))) 1230 = some (.inl (1, 4200, .inl Sk)) := (am_up_ne (show 1230 ≠ 1213 from by decide)).trans ((am_up_ne (show 1230 ≠ 1218 from by decide)).trans ((am_up_ne (show 1230 ≠ 1216 from by decide)).trans ((am_up_ne (show 1230 ≠ 1217 from by decide)).trans ((am_up_ne (show 1230 ≠ 1215 from by decide)).trans ((am_up_ne (show 1230 ≠ 1214 from by decide)).trans (hS))))))
        refine v_iald (am_Dk d_MT_compound (k := 38) rfl) m3 rfl (vp_in_nI (by omega) (by omega)) ?_
        rw [nI_clamp (n := fr + i) (by omega)]
        have m4 : (am_up (am_up (am_up (am_up (am_up (am_up M 1214 (.inl (1, 9000, .inl (upd Kd sz 2)))) 1215 (.inl (1, 9000, .inl (upd Nm sz v)))) 1217 (.inl (1, 9000, .inl (upd Ma sz (nI c))))) 1216 (.inl (1, 9000, .inl (upd Fi sz (nI pt))))) 1218 (.inl (1, 9000, .inl (ptF Pa Sk pt fr i)))) 1213 (.inr (10, [.ref 1214, .ref 1215, .ref 1216, .ref 1217, .ref 1218, .ref 1219, .int (nI sz), .int (nI (pt + i))]))) 1218 = some (.inl (1, 9000, .inl (ptF Pa Sk pt fr i))) := (am_up_ne (show 1218 ≠ 1213 from by decide)).trans (am_up_eq _ _ _)
        refine v_iast (am_Dk d_MT_compound (k := 39) rfl) m4 rfl (vp_in_nI (by omega) (by omega)) ?_
        rw [nI_clamp (n := pt + i) (by omega), ptF_1]
        rw [am_uu1 (a := 1218)]
        refine v_aload_n (am_Dk d_MT_compound (k := 40) rfl) rfl ?_
        refine v_dup (am_Dk d_MT_compound (k := 41) rfl) rfl ?_
        have m5 : (am_up (am_up (am_up (am_up (am_up (am_up M 1214 (.inl (1, 9000, .inl (upd Kd sz 2)))) 1215 (.inl (1, 9000, .inl (upd Nm sz v)))) 1217 (.inl (1, 9000, .inl (upd Ma sz (nI c))))) 1216 (.inl (1, 9000, .inl (upd Fi sz (nI pt))))) 1213 (.inr (10, [.ref 1214, .ref 1215, .ref 1216, .ref 1217, .ref 1218, .ref 1219, .int (nI sz), .int (nI (pt + i))]))) 1218 (.inl (1, 9000, .inl (ptF Pa Sk pt fr (i + 1))))) 1213 = some (.inr (10, [.ref 1214, .ref 1215, .ref 1216, .ref 1217, .ref 1218, .ref 1219, .int (nI sz), .int (nI (pt + i))])) := (am_up_ne (show 1213 ≠ 1218 from by decide)).trans (am_up_eq _ _ _)
        refine v_get (am_Dk d_MT_compound (k := 42) rfl) f_MT_35 m5 rfl ?_
        refine v_iconst (v := 1) (am_Dk d_MT_compound (k := 43) rfl) (by decide) ?_
        refine v_iadd (am_Dk d_MT_compound (k := 44) rfl) ?_
        rw [nI_1]
        refine v_put (am_Dk d_MT_compound (k := 45) rfl) f_MT_35 m5 (Nat.le_of_ble_eq_true rfl) rfl rfl ?_
        rw [am_uu1 (a := 1213)]
        refine v_iinc (v := nI (i + 1)) (L1 := [(5, .int (nI (i + 1))), (0, .ref 1213), (1, .int v), (2, .ref 1230), (3, .int (nI fr)), (4, .int (nI c))]) (am_Dk d_MT_compound (k := 46) rfl) rfl (nI_1 _) (by decide) rfl ?_
        refine v_goto (tgt := 47) (am_Dk d_MT_compound (k := 47) rfl) (by decide) ?_
        exact ih (i + 1) (by omega)
  refine v_aload_n (am_Dk d_MT_compound (k := 0) rfl) rfl ?_
  refine v_get (am_Dk d_MT_compound (k := 1) rfl) f_MT_9 hA.1 rfl ?_
  refine v_aload_n (am_Dk d_MT_compound (k := 2) rfl) rfl ?_
  refine v_get (am_Dk d_MT_compound (k := 3) rfl) f_MT_31 hA.1 rfl ?_
  refine v_iconst (v := 2) (am_Dk d_MT_compound (k := 4) rfl) (by decide) ?_
  refine v_iast (am_Dk d_MT_compound (k := 5) rfl) hA.2.1 rfl (vp_in_nI (by omega) (by omega)) ?_
  rw [nI_clamp (n := sz) (by omega)]
  refine v_aload_n (am_Dk d_MT_compound (k := 6) rfl) rfl ?_
  have m1 : (am_up M 1214 (.inl (1, 9000, .inl (upd Kd (sz) 2)))) 1213 = some (.inr (10, [.ref 1214, .ref 1215, .ref 1216, .ref 1217, .ref 1218, .ref 1219, .int (nI sz), .int (nI pt)])) := (am_up_ne (show 1213 ≠ 1214 from by decide)).trans (hA.1)
  refine v_get (am_Dk d_MT_compound (k := 7) rfl) f_MT_15 m1 rfl ?_
  refine v_aload_n (am_Dk d_MT_compound (k := 8) rfl) rfl ?_
  refine v_get (am_Dk d_MT_compound (k := 9) rfl) f_MT_31 m1 rfl ?_
  refine v_iload_n (am_Dk d_MT_compound (k := 10) rfl) rfl ?_
  have m2 : (am_up M 1214 (.inl (1, 9000, .inl (upd Kd (sz) 2)))) 1215 = some (.inl (1, 9000, .inl Nm)) := (am_up_ne (show 1215 ≠ 1214 from by decide)).trans (hA.2.2.1)
  refine v_iast (am_Dk d_MT_compound (k := 11) rfl) m2 rfl (vp_in_nI (by omega) (by omega)) ?_
  rw [nI_clamp (n := sz) (by omega)]
  refine v_aload_n (am_Dk d_MT_compound (k := 12) rfl) rfl ?_
  have m3 : (am_up (am_up M 1214 (.inl (1, 9000, .inl (upd Kd (sz) 2)))) 1215 (.inl (1, 9000, .inl (upd Nm (sz) v)))) 1213 = some (.inr (10, [.ref 1214, .ref 1215, .ref 1216, .ref 1217, .ref 1218, .ref 1219, .int (nI sz), .int (nI pt)])) := (am_up_ne (show 1213 ≠ 1215 from by decide)).trans ((am_up_ne (show 1213 ≠ 1214 from by decide)).trans (hA.1))
  refine v_get (am_Dk d_MT_compound (k := 13) rfl) f_MT_21 m3 rfl ?_
  refine v_aload_n (am_Dk d_MT_compound (k := 14) rfl) rfl ?_
  refine v_get (am_Dk d_MT_compound (k := 15) rfl) f_MT_31 m3 rfl ?_
  refine v_iload (am_Dk d_MT_compound (k := 16) rfl) rfl ?_
  have m4 : (am_up (am_up M 1214 (.inl (1, 9000, .inl (upd Kd (sz) 2)))) 1215 (.inl (1, 9000, .inl (upd Nm (sz) v)))) 1217 = some (.inl (1, 9000, .inl Ma)) := (am_up_ne (show 1217 ≠ 1215 from by decide)).trans ((am_up_ne (show 1217 ≠ 1214 from by decide)).trans (hA.2.2.2.2.1))
  refine v_iast (am_Dk d_MT_compound (k := 17) rfl) m4 rfl (vp_in_nI (by omega) (by omega)) ?_
  rw [nI_clamp (n := sz) (by omega)]
  refine v_aload_n (am_Dk d_MT_compound (k := 18) rfl) rfl ?_
  have m5 : (am_up (am_up (am_up M 1214 (.inl (1, 9000, .inl (upd Kd (sz) 2)))) 1215 (.inl (1, 9000, .inl (upd Nm (sz) v)))) 1217 (.inl (1, 9000, .inl (upd Ma (sz) (nI c))))) 1213 = some (.inr (10, [.ref 1214, .ref 1215, .ref 1216, .ref 1217, .ref 1218, .ref 1219, .int (nI sz), .int (nI pt)])) := (am_up_ne (show 1213 ≠ 1217 from by decide)).trans ((am_up_ne (show 1213 ≠ 1215 from by decide)).trans ((am_up_ne (show 1213 ≠ 1214 from by decide)).trans (hA.1)))
  refine v_get (am_Dk d_MT_compound (k := 19) rfl) f_MT_18 m5 rfl ?_
  refine v_aload_n (am_Dk d_MT_compound (k := 20) rfl) rfl ?_
  refine v_get (am_Dk d_MT_compound (k := 21) rfl) f_MT_31 m5 rfl ?_
  refine v_aload_n (am_Dk d_MT_compound (k := 22) rfl) rfl ?_
  refine v_get (am_Dk d_MT_compound (k := 23) rfl) f_MT_35 m5 rfl ?_
  have m6 : (am_up (am_up (am_up M 1214 (.inl (1, 9000, .inl (upd Kd (sz) 2)))) 1215 (.inl (1, 9000, .inl (upd Nm (sz) v)))) 1217 (.inl (1, 9000, .inl (upd Ma (sz) (nI c))))) 1216 = some (.inl (1, 9000, .inl Fi)) := (am_up_ne (show 1216 ≠ 1217 from by decide)).trans ((am_up_ne (show 1216 ≠ 1215 from by decide)).trans ((am_up_ne (show 1216 ≠ 1214 from by decide)).trans (hA.2.2.2.1)))
  refine v_iast (am_Dk d_MT_compound (k := 24) rfl) m6 rfl (vp_in_nI (by omega) (by omega)) ?_
  rw [nI_clamp (n := sz) (by omega)]
  refine v_iconst (v := 0) (am_Dk d_MT_compound (k := 25) rfl) (by decide) ?_
  refine v_istore (L1 := [(5, .int 0), (0, .ref 1213), (1, .int v), (2, .ref 1230), (3, .int (nI fr)), (4, .int (nI c))]) (am_Dk d_MT_compound (k := 26) rfl) (by decide) rfl ?_
  refine am_V_eq (M' := (am_up (am_up (am_up (am_up (am_up (am_up M 1214 (.inl (1, 9000, .inl (upd Kd sz 2)))) 1215 (.inl (1, 9000, .inl (upd Nm sz v)))) 1217 (.inl (1, 9000, .inl (upd Ma sz (nI c))))) 1216 (.inl (1, 9000, .inl (upd Fi sz (nI pt))))) 1218 (.inl (1, 9000, .inl (ptF Pa Sk pt fr 0)))) 1213 (.inr (10, [.ref 1214, .ref 1215, .ref 1216, .ref 1217, .ref 1218, .ref 1219, .int (nI sz), .int (nI (pt + 0))])))) ?_ (hlp c 0 (by omega))
  rw [ptF_0, Nat.add_zero, am_up_id (a := 1218) ((am_up_ne (show 1218 ≠ 1216 from by decide)).trans ((am_up_ne (show 1218 ≠ 1217 from by decide)).trans ((am_up_ne (show 1218 ≠ 1215 from by decide)).trans ((am_up_ne (show 1218 ≠ 1214 from by decide)).trans (hA.2.2.2.2.2.1))))), am_up_id (a := 1213) ((am_up_ne (show 1213 ≠ 1216 from by decide)).trans ((am_up_ne (show 1213 ≠ 1217 from by decide)).trans ((am_up_ne (show 1213 ≠ 1215 from by decide)).trans ((am_up_ne (show 1213 ≠ 1214 from by decide)).trans (hA.1)))))]
set_option maxRecDepth 20000 in
theorem t_MT_part (G : am_G) {d nx : Nat} (hd : 0 ≤ d) {M : am_M} {sz pt : Nat} {Kd Nm Fi Ma Pa : Nat → Int32} {Nu : Nat → Int64} (hA : ARs M (Kd, Nm, Fi, Ma, Pa, Nu) sz pt) {t b i : Nat} (ht : t < 9000) (hb : Fi t = nI b) (hbi : b + i < 9000) : am_Tr G m_MT_part d 0 0 [.ref 1213, .int (nI t), .int (nI i)] M nx (fun r M1 nx1 => r = .inl (some (.int (Pa (b + i)))) ∧ M1 = M ∧ nx1 = nx) := by
  refine am_TrOf (by decide) (Nat.le_of_ble_eq_true rfl) ?_
  show am_V G _ _ _ _ _ 0 [(0, .ref 1213), (1, .int (nI t)), (2, .int (nI i))] [] M nx 0 0
  have hFi : M 1216 = some (.inl (1, 9000, .inl Fi)) := hA.2.2.2.1
  have hPa : M 1218 = some (.inl (1, 9000, .inl Pa)) := hA.2.2.2.2.2.1
  refine v_aload_n (am_Dk d_MT_part (k := 0) rfl) rfl ?_
  refine v_get (am_Dk d_MT_part (k := 1) rfl) f_MT_24 hA.1 rfl ?_
  refine v_aload_n (am_Dk d_MT_part (k := 2) rfl) rfl ?_
  refine v_get (am_Dk d_MT_part (k := 3) rfl) f_MT_18 hA.1 rfl ?_
  refine v_iload_n (am_Dk d_MT_part (k := 4) rfl) rfl ?_
  refine v_iald (am_Dk d_MT_part (k := 5) rfl) hFi rfl (vp_in_nI (by omega) (by omega)) ?_
  rw [nI_clamp (n := t) (by omega)]
  rw [show Fi t = nI b from hb]
  refine v_iload_n (am_Dk d_MT_part (k := 6) rfl) rfl ?_
  refine v_iadd (am_Dk d_MT_part (k := 7) rfl) ?_
  rw [nI_add]
  refine v_iald (am_Dk d_MT_part (k := 8) rfl) hPa rfl (vp_in_nI (by omega) (by omega)) ?_
  rw [nI_clamp (n := b + i) (by omega)]
  exact v_ireturn (am_Dk d_MT_part (k := 9) rfl) rfl rfl (by omega) (by omega) ⟨rfl, rfl, rfl⟩
