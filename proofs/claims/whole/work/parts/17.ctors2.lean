/-! THE READER'S AND THE CLASS'S OWN CONSTRUCTORS (mine; rows laid by the walker): ids from 1000 on -/
def ci_open (n : Nat) (R N : Nat → Nat) (Mo Pr Ar : Nat → Int32) (M : am_M) : Prop := ∀ j, j < n → M (2 * j + 1008) = some (.inr (7, [.ref (R j), .ref (N j), .int (Mo j), .int (Pr j), .int (Ar j), .ref (2 * j + 1009)]))
def ci_oper (n : Nat) (E : Nat → Int32) (K : Nat → Int64) (Fr To : Nat → Int32) (M : am_M) : Prop := ∀ j, j < n → M (2 * j + 1009) = some (.inr (8, [.int (E j), .long (K j), .int (Fr j), .int (To j)]))
def ci_arr (n : Nat) : Nat → Option Nat := fun j => if j < n then some (2 * j + 1008) else none
def sg0 : am_O := .inr (6, [.ref 1001, .ref 36, .int 0, .int 0, .long 0, .ref 0, .int 0, .int 0])
theorem nI_in100 {i : Nat} (h : i < 100) : vp_in (nI i) 100 := vp_in_nI h (by decide)
def rd_Q (M0 : am_M) : am_Qt := fun r M1 nx1 => r = .inl none ∧ nx1 = 1211 ∧ M1 1005 = some (.inr (5, [.ref 1001, .ref 1003, .ref 1006, .ref 1007, .int 0, .int 0, .int 0, .int 0, .int 0, .ref 0, .ref 1208, .ref 1209, .ref 1210])) ∧ M1 1006 = some (.inr (6, [.ref 1001, .ref 36, .int 0, .int 0, .long 0, .ref 0, .int 0, .int 0])) ∧ M1 1007 = some (.inl (4, 100, .inr (.inr (.inr (.inr (ci_arr 100)))))) ∧ ci_open 100 (fun _ => 38) (fun _ => 0) (fun _ => 0) (fun _ => 0) (fun _ => 0) M1 ∧ ci_oper 100 (fun _ => 0) (fun _ => 0) (fun _ => 0) (fun _ => 0) M1 ∧ M1 1208 = some (.inr (8, [.int 0, .long 0, .int 0, .int 0])) ∧ M1 1209 = some (.inr (8, [.int 0, .long 0, .int 0, .int 0])) ∧ M1 1210 = some (.inr (8, [.int 0, .long 0, .int 0, .int 0])) ∧ ∀ k, k < 1005 → M1 k = M0 k
def rd_I (M0 : am_M) (i : Nat) (M : am_M) : Prop := M 1005 = some (.inr (5, [.ref 1001, .ref 1003, .ref 1006, .ref 1007, .int 0, .int 0, .int 0, .int 0, .int 0, .null, .null, .null, .null])) ∧ M 1006 = some (.inr (6, [.ref 1001, .ref 36, .int 0, .int 0, .long 0, .ref 0, .int 0, .int 0])) ∧ M 1007 = some (.inl (4, 100, .inr (.inr (.inr (.inr (ci_arr i)))))) ∧ ci_open i (fun _ => 38) (fun _ => 0) (fun _ => 0) (fun _ => 0) (fun _ => 0) M ∧ ci_oper i (fun _ => 0) (fun _ => 0) (fun _ => 0) (fun _ => 0) M ∧ ∀ k, k < 1005 → M k = M0 k
set_option maxRecDepth 20000 in
theorem rd_end (G : am_G) {d : Nat} (hd : 3 ≤ d) {M0 M : am_M} (hI : rd_I M0 100 M) : am_V G m_Rd_init d 205 1120 (rd_Q M0) 62 [(3, .int (nI 100)), (0, .ref 1005), (1, .ref 1001), (2, .ref 1003)] [] M 1208 202 1108 := by
  obtain ⟨h1, h2, h3, h4, h5, h6⟩ := hI
  refine v_aload_n (am_Dk d_Rd_init (k := 32) rfl) rfl ?_
  refine v_gets (v := .ref 0) (am_Dk d_Rd_init (k := 33) rfl) s_Rd_35 (by decide +kernel) ?_
  refine v_put (am_Dk d_Rd_init (k := 34) rfl) f_Rd_41 h1 (Nat.le_of_ble_eq_true rfl) rfl rfl ?_
  refine v_aload_n (am_Dk d_Rd_init (k := 35) rfl) rfl ?_
  refine v_new (fs := [.int 0, .long 0, .int 0, .int 0]) (am_Dk d_Rd_init (k := 36) rfl) cq_ok8 n_Rd_44 i_Op.1 i_Op.2 (by decide) rfl (by omega) (by omega) ?_
  refine v_dup (am_Dk d_Rd_init (k := 37) rfl) rfl ?_
  refine v_callI (rest := [.ref 1208, .ref 1005]) (As := []) (mc' := 0) (ms' := 0) (am_Dk d_Rd_init (k := 38) rfl) c_Rd_46 (t_Op_init G (d := 1) (by decide) (a := 1208)) (by omega) (by omega) (by omega) (by simp [Value.category]) rfl (fun v1 M2 n3 h4 => ?_) (fun _ _ _ h4 => ?_)
  rotate_left
  · exact absurd h4.1 (by simp)
  obtain ⟨h4, e5, e6⟩ := h4
  replace e5 := e5.symm
  replace e6 := e6.symm
  subst e5
  subst e6
  cases h4
  show am_V G _ _ _ _ _ 77 [(3, .int (nI 100)), (0, .ref 1005), (1, .ref 1001), (2, .ref 1003)] [.ref 1208, .ref 1005] (am_up (am_up M 1005 (.inr (5, [.ref 1001, .ref 1003, .ref 1006, .ref 1007, .int 0, .int 0, .int 0, .int 0, .int 0, .ref 0, .null, .null, .null]))) 1208 (.inr (8, [.int 0, .long 0, .int 0, .int 0]))) 1209 203 1112
  have m7 : (am_up (am_up M 1005 (.inr (5, [.ref 1001, .ref 1003, .ref 1006, .ref 1007, .int 0, .int 0, .int 0, .int 0, .int 0, .ref 0, .null, .null, .null]))) 1208 (.inr (8, [.int 0, .long 0, .int 0, .int 0]))) 1005 = some (.inr (5, [.ref 1001, .ref 1003, .ref 1006, .ref 1007, .int 0, .int 0, .int 0, .int 0, .int 0, .ref 0, .null, .null, .null])) := (am_up_ne (show 1005 ≠ 1208 from by decide)).trans (am_up_eq _ _ _)
  refine v_putF (am_Dk d_Rd_init (k := 39) rfl) f_Rd_47 rfl m7 (Nat.le_of_ble_eq_true rfl) rfl rfl ?_
  rw [am_uu1]
  refine v_aload_n (am_Dk d_Rd_init (k := 40) rfl) rfl ?_
  refine v_new (fs := [.int 0, .long 0, .int 0, .int 0]) (am_Dk d_Rd_init (k := 41) rfl) cq_ok8 n_Rd_44 i_Op.1 i_Op.2 (by decide) rfl (by omega) (by omega) ?_
  refine v_dup (am_Dk d_Rd_init (k := 42) rfl) rfl ?_
  refine v_callI (rest := [.ref 1209, .ref 1005]) (As := []) (mc' := 0) (ms' := 0) (am_Dk d_Rd_init (k := 43) rfl) c_Rd_46 (t_Op_init G (d := 1) (by decide) (a := 1209)) (by omega) (by omega) (by omega) (by simp [Value.category]) rfl (fun v8 M9 n10 h11 => ?_) (fun _ _ _ h11 => ?_)
  rotate_left
  · exact absurd h11.1 (by simp)
  obtain ⟨h11, e12, e13⟩ := h11
  replace e12 := e12.symm
  replace e13 := e13.symm
  subst e12
  subst e13
  cases h11
  show am_V G _ _ _ _ _ 88 [(3, .int (nI 100)), (0, .ref 1005), (1, .ref 1001), (2, .ref 1003)] [.ref 1209, .ref 1005] (am_up (am_up (am_up M 1208 (.inr (8, [.int 0, .long 0, .int 0, .int 0]))) 1005 (.inr (5, [.ref 1001, .ref 1003, .ref 1006, .ref 1007, .int 0, .int 0, .int 0, .int 0, .int 0, .ref 0, .ref 1208, .null, .null]))) 1209 (.inr (8, [.int 0, .long 0, .int 0, .int 0]))) 1210 204 1116
  have m14 : (am_up (am_up (am_up M 1208 (.inr (8, [.int 0, .long 0, .int 0, .int 0]))) 1005 (.inr (5, [.ref 1001, .ref 1003, .ref 1006, .ref 1007, .int 0, .int 0, .int 0, .int 0, .int 0, .ref 0, .ref 1208, .null, .null]))) 1209 (.inr (8, [.int 0, .long 0, .int 0, .int 0]))) 1005 = some (.inr (5, [.ref 1001, .ref 1003, .ref 1006, .ref 1007, .int 0, .int 0, .int 0, .int 0, .int 0, .ref 0, .ref 1208, .null, .null])) := (am_up_ne (show 1005 ≠ 1209 from by decide)).trans (am_up_eq _ _ _)
  refine v_putF (am_Dk d_Rd_init (k := 44) rfl) f_Rd_51 rfl m14 (Nat.le_of_ble_eq_true rfl) rfl rfl ?_
  rw [am_uu1]
  refine v_aload_n (am_Dk d_Rd_init (k := 45) rfl) rfl ?_
  refine v_new (fs := [.int 0, .long 0, .int 0, .int 0]) (am_Dk d_Rd_init (k := 46) rfl) cq_ok8 n_Rd_44 i_Op.1 i_Op.2 (by decide) rfl (by omega) (by omega) ?_
  refine v_dup (am_Dk d_Rd_init (k := 47) rfl) rfl ?_
  refine v_callI (rest := [.ref 1210, .ref 1005]) (As := []) (mc' := 0) (ms' := 0) (am_Dk d_Rd_init (k := 48) rfl) c_Rd_46 (t_Op_init G (d := 1) (by decide) (a := 1210)) (by omega) (by omega) (by omega) (by simp [Value.category]) rfl (fun v15 M16 n17 h18 => ?_) (fun _ _ _ h18 => ?_)
  rotate_left
  · exact absurd h18.1 (by simp)
  obtain ⟨h18, e19, e20⟩ := h18
  replace e19 := e19.symm
  replace e20 := e20.symm
  subst e19
  subst e20
  cases h18
  show am_V G _ _ _ _ _ 99 [(3, .int (nI 100)), (0, .ref 1005), (1, .ref 1001), (2, .ref 1003)] [.ref 1210, .ref 1005] (am_up (am_up (am_up (am_up M 1208 (.inr (8, [.int 0, .long 0, .int 0, .int 0]))) 1209 (.inr (8, [.int 0, .long 0, .int 0, .int 0]))) 1005 (.inr (5, [.ref 1001, .ref 1003, .ref 1006, .ref 1007, .int 0, .int 0, .int 0, .int 0, .int 0, .ref 0, .ref 1208, .ref 1209, .null]))) 1210 (.inr (8, [.int 0, .long 0, .int 0, .int 0]))) 1211 205 1120
  have m21 : (am_up (am_up (am_up (am_up M 1208 (.inr (8, [.int 0, .long 0, .int 0, .int 0]))) 1209 (.inr (8, [.int 0, .long 0, .int 0, .int 0]))) 1005 (.inr (5, [.ref 1001, .ref 1003, .ref 1006, .ref 1007, .int 0, .int 0, .int 0, .int 0, .int 0, .ref 0, .ref 1208, .ref 1209, .null]))) 1210 (.inr (8, [.int 0, .long 0, .int 0, .int 0]))) 1005 = some (.inr (5, [.ref 1001, .ref 1003, .ref 1006, .ref 1007, .int 0, .int 0, .int 0, .int 0, .int 0, .ref 0, .ref 1208, .ref 1209, .null])) := (am_up_ne (show 1005 ≠ 1210 from by decide)).trans (am_up_eq _ _ _)
  refine v_putF (am_Dk d_Rd_init (k := 49) rfl) f_Rd_54 rfl m21 (Nat.le_of_ble_eq_true rfl) rfl rfl ?_
  rw [am_uu1]
  have m22 : (am_up (am_up (am_up (am_up M 1208 (.inr (8, [.int 0, .long 0, .int 0, .int 0]))) 1209 (.inr (8, [.int 0, .long 0, .int 0, .int 0]))) 1210 (.inr (8, [.int 0, .long 0, .int 0, .int 0]))) 1005 (.inr (5, [.ref 1001, .ref 1003, .ref 1006, .ref 1007, .int 0, .int 0, .int 0, .int 0, .int 0, .ref 0, .ref 1208, .ref 1209, .ref 1210]))) 1005 = some (.inr (5, [.ref 1001, .ref 1003, .ref 1006, .ref 1007, .int 0, .int 0, .int 0, .int 0, .int 0, .ref 0, .ref 1208, .ref 1209, .ref 1210])) := am_up_eq _ _ _
  have m23 : (am_up (am_up (am_up (am_up M 1208 (.inr (8, [.int 0, .long 0, .int 0, .int 0]))) 1209 (.inr (8, [.int 0, .long 0, .int 0, .int 0]))) 1210 (.inr (8, [.int 0, .long 0, .int 0, .int 0]))) 1005 (.inr (5, [.ref 1001, .ref 1003, .ref 1006, .ref 1007, .int 0, .int 0, .int 0, .int 0, .int 0, .ref 0, .ref 1208, .ref 1209, .ref 1210]))) 1006 = some (.inr (6, [.ref 1001, .ref 36, .int 0, .int 0, .long 0, .ref 0, .int 0, .int 0])) := (am_up_ne (show 1006 ≠ 1005 from by decide)).trans ((am_up_ne (show 1006 ≠ 1210 from by decide)).trans ((am_up_ne (show 1006 ≠ 1209 from by decide)).trans ((am_up_ne (show 1006 ≠ 1208 from by decide)).trans (h2))))
  have m24 : (am_up (am_up (am_up (am_up M 1208 (.inr (8, [.int 0, .long 0, .int 0, .int 0]))) 1209 (.inr (8, [.int 0, .long 0, .int 0, .int 0]))) 1210 (.inr (8, [.int 0, .long 0, .int 0, .int 0]))) 1005 (.inr (5, [.ref 1001, .ref 1003, .ref 1006, .ref 1007, .int 0, .int 0, .int 0, .int 0, .int 0, .ref 0, .ref 1208, .ref 1209, .ref 1210]))) 1007 = some (.inl (4, 100, .inr (.inr (.inr (.inr (ci_arr 100)))))) := (am_up_ne (show 1007 ≠ 1005 from by decide)).trans ((am_up_ne (show 1007 ≠ 1210 from by decide)).trans ((am_up_ne (show 1007 ≠ 1209 from by decide)).trans ((am_up_ne (show 1007 ≠ 1208 from by decide)).trans (h3))))
  have m25 : (am_up (am_up (am_up (am_up M 1208 (.inr (8, [.int 0, .long 0, .int 0, .int 0]))) 1209 (.inr (8, [.int 0, .long 0, .int 0, .int 0]))) 1210 (.inr (8, [.int 0, .long 0, .int 0, .int 0]))) 1005 (.inr (5, [.ref 1001, .ref 1003, .ref 1006, .ref 1007, .int 0, .int 0, .int 0, .int 0, .int 0, .ref 0, .ref 1208, .ref 1209, .ref 1210]))) 1208 = some (.inr (8, [.int 0, .long 0, .int 0, .int 0])) := (am_up_ne (show 1208 ≠ 1005 from by decide)).trans ((am_up_ne (show 1208 ≠ 1210 from by decide)).trans ((am_up_ne (show 1208 ≠ 1209 from by decide)).trans (am_up_eq _ _ _)))
  have m26 : (am_up (am_up (am_up (am_up M 1208 (.inr (8, [.int 0, .long 0, .int 0, .int 0]))) 1209 (.inr (8, [.int 0, .long 0, .int 0, .int 0]))) 1210 (.inr (8, [.int 0, .long 0, .int 0, .int 0]))) 1005 (.inr (5, [.ref 1001, .ref 1003, .ref 1006, .ref 1007, .int 0, .int 0, .int 0, .int 0, .int 0, .ref 0, .ref 1208, .ref 1209, .ref 1210]))) 1209 = some (.inr (8, [.int 0, .long 0, .int 0, .int 0])) := (am_up_ne (show 1209 ≠ 1005 from by decide)).trans ((am_up_ne (show 1209 ≠ 1210 from by decide)).trans (am_up_eq _ _ _))
  have m27 : (am_up (am_up (am_up (am_up M 1208 (.inr (8, [.int 0, .long 0, .int 0, .int 0]))) 1209 (.inr (8, [.int 0, .long 0, .int 0, .int 0]))) 1210 (.inr (8, [.int 0, .long 0, .int 0, .int 0]))) 1005 (.inr (5, [.ref 1001, .ref 1003, .ref 1006, .ref 1007, .int 0, .int 0, .int 0, .int 0, .int 0, .ref 0, .ref 1208, .ref 1209, .ref 1210]))) 1210 = some (.inr (8, [.int 0, .long 0, .int 0, .int 0])) := (am_up_ne (show 1210 ≠ 1005 from by decide)).trans (am_up_eq _ _ _)
  refine v_return (am_Dk d_Rd_init (k := 50) rfl) rfl (by omega) (by omega) ?_
  refine ⟨rfl, rfl, m22, m23, m24, fun j hj => ?_, fun j hj => ?_, m25, m26, m27, fun k hk => ?_⟩
  · exact (am_up_ne (show 2 * j + 1008 ≠ 1005 from by omega)).trans ((am_up_ne (show 2 * j + 1008 ≠ 1210 from by omega)).trans ((am_up_ne (show 2 * j + 1008 ≠ 1209 from by omega)).trans ((am_up_ne (show 2 * j + 1008 ≠ 1208 from by omega)).trans (h4 j hj))))
  · exact (am_up_ne (show 2 * j + 1009 ≠ 1005 from by omega)).trans ((am_up_ne (show 2 * j + 1009 ≠ 1210 from by omega)).trans ((am_up_ne (show 2 * j + 1009 ≠ 1209 from by omega)).trans ((am_up_ne (show 2 * j + 1009 ≠ 1208 from by omega)).trans (h5 j hj))))
  · exact (am_up_ne (show k ≠ 1005 from by omega)).trans ((am_up_ne (show k ≠ 1210 from by omega)).trans ((am_up_ne (show k ≠ 1209 from by omega)).trans ((am_up_ne (show k ≠ 1208 from by omega)).trans (h6 k hk))))
set_option maxRecDepth 20000 in
theorem rd_loop (G : am_G) {d : Nat} (hd : 3 ≤ d) {M0 : am_M} : ∀ (n i : Nat), i + n = 100 → ∀ M, rd_I M0 i M → am_V G m_Rd_init d 205 1120 (rd_Q M0) 37 [(3, .int (nI i)), (0, .ref 1005), (1, .ref 1001), (2, .ref 1003)] [] M (2 * i + 1008) (2 * i + 2) (10 * i + 108) := by
  intro n
  induction n with
  | zero =>
    intro i hi M hI
    have hi : i = 100 := by omega
    subst hi
    refine v_iload_n (am_Dk d_Rd_init (k := 20) rfl) rfl ?_
    refine v_bipush (v := 100) (am_Dk d_Rd_init (k := 21) rfl) (by decide) ?_
    refine v_icmp_ge (tgt := 62) (am_Dk d_Rd_init (k := 22) rfl) (by decide) (fun c1 => ?_) (fun c1 => ?_)
    · exact rd_end G hd hI
    · exact absurd (by decide) c1
  | succ n ih =>
    intro i hi M hI
    obtain ⟨h1, h2, h3, h4, h5, h6⟩ := hI
    have hlt : i < 100 := by omega
    have hin := nI_in100 hlt
    have hcl : (nI i).toNatClampNeg = i := nI_clamp (by omega)
    refine v_iload_n (am_Dk d_Rd_init (k := 20) rfl) rfl ?_
    refine v_bipush (v := 100) (am_Dk d_Rd_init (k := 21) rfl) (by decide) ?_
    refine v_icmp_ge (tgt := 62) (am_Dk d_Rd_init (k := 22) rfl) (by decide) (fun c1 => ?_) (fun c1 => ?_)
    · exact absurd c1 (nI_ge (a := i) (b := 100) hlt (by decide))
    · refine v_aload_n (am_Dk d_Rd_init (k := 23) rfl) rfl ?_
      refine v_get (am_Dk d_Rd_init (k := 24) rfl) f_Rd_30 h1 rfl ?_
      refine v_iload_n (am_Dk d_Rd_init (k := 25) rfl) rfl ?_
      refine v_new (fs := [.null, .null, .int 0, .int 0, .int 0, .null]) (am_Dk d_Rd_init (k := 26) rfl) cq_ok7 n_Rd_28 i_OT.1 i_OT.2 (by decide) rfl (by omega) (by omega) ?_
      refine v_dup (am_Dk d_Rd_init (k := 27) rfl) rfl ?_
      have m41 : (am_up M (2 * i + 1008) (.inr (7, [.null, .null, .int 0, .int 0, .int 0, .null]))) (2 * i + 1008) = some (.inr (7, [.null, .null, .int 0, .int 0, .int 0, .null])) := am_up_eq _ _ _
      refine v_callI (rest := [.ref (2 * i + 1008), .int (nI i), .ref 1007]) (As := []) (mc' := 1) (ms' := 4) (am_Dk d_Rd_init (k := 28) rfl) c_Rd_34 (t_OT_init G (d := 2) (by decide) (by omega) m41) (by omega) (by omega) (by omega) (by simp [Value.category]) rfl (fun v42 M43 n44 h45 => ?_) (fun _ _ _ h45 => ?_)
      rotate_left
      · exact absurd h45.1 (by simp)
      obtain ⟨h45, e46, e47⟩ := h45
      replace e46 := e46.symm
      replace e47 := e47.symm
      subst e46
      subst e47
      cases h45
      rw [am_uu1]
      show am_V G _ _ _ _ _ 55 [(3, .int (nI i)), (0, .ref 1005), (1, .ref 1001), (2, .ref 1003)] [.ref (2 * i + 1008), .int (nI i), .ref 1007] (am_up (am_up M (2 * i + 1009) (.inr (8, [.int 0, .long 0, .int 0, .int 0]))) (2 * i + 1008) (.inr (7, [.ref 38, .ref 0, .int 0, .int 0, .int 0, .ref (2 * i + 1009)]))) (2 * i + 1010) (2 * i + 4) (10 * i + 118)
      have m48 : (am_up (am_up M (2 * i + 1009) (.inr (8, [.int 0, .long 0, .int 0, .int 0]))) (2 * i + 1008) (.inr (7, [.ref 38, .ref 0, .int 0, .int 0, .int 0, .ref (2 * i + 1009)]))) 1007 = some (.inl (4, 100, .inr (.inr (.inr (.inr (ci_arr i)))))) := (am_up_ne (show 1007 ≠ (2 * i + 1008) from by omega)).trans ((am_up_ne (show 1007 ≠ (2 * i + 1009) from by omega)).trans (h3))
      have m49 : (am_up (am_up M (2 * i + 1009) (.inr (8, [.int 0, .long 0, .int 0, .int 0]))) (2 * i + 1008) (.inr (7, [.ref 38, .ref 0, .int 0, .int 0, .int 0, .ref (2 * i + 1009)]))) (2 * i + 1008) = some (.inr (7, [.ref 38, .ref 0, .int 0, .int 0, .int 0, .ref (2 * i + 1009)])) := am_up_eq _ _ _
      refine v_aast (am_Dk d_Rd_init (k := 29) rfl) m48 rfl m49 cq_ok7 (Or.inl rfl) hin ?_
      refine v_iinc (v := nI (i + 1)) (L1 := [(3, .int (nI (i + 1))), (0, .ref 1005), (1, .ref 1001), (2, .ref 1003)]) (am_Dk d_Rd_init (k := 30) rfl) rfl (nI_1 _) (by decide) rfl ?_
      refine v_goto (tgt := 37) (am_Dk d_Rd_init (k := 31) rfl) (by decide) ?_
      have m50 : (am_up (am_up (am_up M (2 * i + 1009) (.inr (8, [.int 0, .long 0, .int 0, .int 0]))) (2 * i + 1008) (.inr (7, [.ref 38, .ref 0, .int 0, .int 0, .int 0, .ref (2 * i + 1009)]))) 1007 (.inl (4, 100, .inr (.inr (.inr (.inr (va_up (ci_arr i) (Int32.toNatClampNeg ((nI i))) (some (2 * i + 1008))))))))) 1005 = some (.inr (5, [.ref 1001, .ref 1003, .ref 1006, .ref 1007, .int 0, .int 0, .int 0, .int 0, .int 0, .null, .null, .null, .null])) := (am_up_ne (show 1005 ≠ 1007 from by decide)).trans ((am_up_ne (show 1005 ≠ (2 * i + 1008) from by omega)).trans ((am_up_ne (show 1005 ≠ (2 * i + 1009) from by omega)).trans (h1)))
      have m51 : (am_up (am_up (am_up M (2 * i + 1009) (.inr (8, [.int 0, .long 0, .int 0, .int 0]))) (2 * i + 1008) (.inr (7, [.ref 38, .ref 0, .int 0, .int 0, .int 0, .ref (2 * i + 1009)]))) 1007 (.inl (4, 100, .inr (.inr (.inr (.inr (va_up (ci_arr i) (Int32.toNatClampNeg ((nI i))) (some (2 * i + 1008))))))))) 1006 = some (.inr (6, [.ref 1001, .ref 36, .int 0, .int 0, .long 0, .ref 0, .int 0, .int 0])) := (am_up_ne (show 1006 ≠ 1007 from by decide)).trans ((am_up_ne (show 1006 ≠ (2 * i + 1008) from by omega)).trans ((am_up_ne (show 1006 ≠ (2 * i + 1009) from by omega)).trans (h2)))
      have m52 : (am_up (am_up (am_up M (2 * i + 1009) (.inr (8, [.int 0, .long 0, .int 0, .int 0]))) (2 * i + 1008) (.inr (7, [.ref 38, .ref 0, .int 0, .int 0, .int 0, .ref (2 * i + 1009)]))) 1007 (.inl (4, 100, .inr (.inr (.inr (.inr (va_up (ci_arr i) (Int32.toNatClampNeg ((nI i))) (some (2 * i + 1008))))))))) 1007 = some (.inl (4, 100, .inr (.inr (.inr (.inr (va_up (ci_arr i) (Int32.toNatClampNeg ((nI i))) (some (2 * i + 1008)))))))) := am_up_eq _ _ _
      have m53 : (am_up (am_up (am_up M (2 * i + 1009) (.inr (8, [.int 0, .long 0, .int 0, .int 0]))) (2 * i + 1008) (.inr (7, [.ref 38, .ref 0, .int 0, .int 0, .int 0, .ref (2 * i + 1009)]))) 1007 (.inl (4, 100, .inr (.inr (.inr (.inr (va_up (ci_arr i) (Int32.toNatClampNeg ((nI i))) (some (2 * i + 1008))))))))) (2 * i + 1008) = some (.inr (7, [.ref 38, .ref 0, .int 0, .int 0, .int 0, .ref (2 * i + 1009)])) := (am_up_ne (show (2 * i + 1008) ≠ 1007 from by omega)).trans (am_up_eq _ _ _)
      have m54 : (am_up (am_up (am_up M (2 * i + 1009) (.inr (8, [.int 0, .long 0, .int 0, .int 0]))) (2 * i + 1008) (.inr (7, [.ref 38, .ref 0, .int 0, .int 0, .int 0, .ref (2 * i + 1009)]))) 1007 (.inl (4, 100, .inr (.inr (.inr (.inr (va_up (ci_arr i) (Int32.toNatClampNeg ((nI i))) (some (2 * i + 1008))))))))) (2 * i + 1009) = some (.inr (8, [.int 0, .long 0, .int 0, .int 0])) := (am_up_ne (show (2 * i + 1009) ≠ 1007 from by omega)).trans ((am_up_ne (show (2 * i + 1009) ≠ (2 * i + 1008) from by omega)).trans (am_up_eq _ _ _))
      have e8 : (va_up (ci_arr i) (nI i).toNatClampNeg (some (2 * i + 1008))) = ci_arr (i + 1) := by
        rw [hcl]
        funext j
        by_cases hj : j = i
        · subst hj; simp [va_up, ci_arr]
        · by_cases hj2 : j < i
          · simp [va_up, ci_arr, hj, hj2, show j < i + 1 by omega]
          · simp [va_up, ci_arr, hj, hj2, show ¬ j < i + 1 by omega]
      rw [show 2 * i + 1010 = 2 * (i + 1) + 1008 by omega, show 2 * i + 4 = 2 * (i + 1) + 2 by omega, show 10 * i + 118 = 10 * (i + 1) + 108 by omega]
      refine ih (i + 1) (by omega) _ ⟨m50, m51, by rw [← e8]; exact m52, fun j hj => ?_, fun j hj => ?_, fun k hk => ?_⟩
      · by_cases hji : j = i
        · subst hji; exact m53
        · exact (am_up_ne (show 2 * j + 1008 ≠ 1007 from by omega)).trans ((am_up_ne (show 2 * j + 1008 ≠ 2 * i + 1008 from by omega)).trans ((am_up_ne (show 2 * j + 1008 ≠ 2 * i + 1009 from by omega)).trans (h4 j (by omega))))
      · by_cases hji : j = i
        · subst hji; exact m54
        · exact (am_up_ne (show 2 * j + 1009 ≠ 1007 from by omega)).trans ((am_up_ne (show 2 * j + 1009 ≠ 2 * i + 1008 from by omega)).trans ((am_up_ne (show 2 * j + 1009 ≠ 2 * i + 1009 from by omega)).trans (h5 j (by omega))))
      · exact (am_up_ne (show k ≠ 1007 from by omega)).trans ((am_up_ne (show k ≠ 2 * i + 1008 from by omega)).trans ((am_up_ne (show k ≠ 2 * i + 1009 from by omega)).trans (h6 k hk)))
set_option maxRecDepth 20000 in
theorem t_Rd_init (G : am_G) {d : Nat} (hd : 3 ≤ d) {M : am_M} (hM : M 1005 = some (.inr (5, [.null, .null, .null, .null, .int 0, .int 0, .int 0, .int 0, .int 0, .null, .null, .null, .null]))) : am_Tr G m_Rd_init d 205 1120 [.ref 1005, .ref 1001, .ref 1003] M 1006 (rd_Q M) := by
  refine am_TrOf (by decide) (Nat.le_of_ble_eq_true rfl) ?_
  show am_V G _ _ _ _ _ 0 [(0, .ref 1005), (1, .ref 1001), (2, .ref 1003)] [] M 1006 0 0
  refine v_aload_n (am_Dk d_Rd_init (k := 0) rfl) rfl ?_
  refine v_objInit (am_Dk d_Rd_init (k := 1) rfl) o_Rd_3 (by omega) (by simp [Value.category]) ?_
  refine v_aload_n (am_Dk d_Rd_init (k := 2) rfl) rfl ?_
  refine v_aload_n (am_Dk d_Rd_init (k := 3) rfl) rfl ?_
  refine v_putF (am_Dk d_Rd_init (k := 4) rfl) f_Rd_9 rfl hM (Nat.le_of_ble_eq_true rfl) rfl rfl ?_
  refine v_aload_n (am_Dk d_Rd_init (k := 5) rfl) rfl ?_
  refine v_aload_n (am_Dk d_Rd_init (k := 6) rfl) rfl ?_
  have m1 : (am_up M 1005 (.inr (5, [.ref 1001, .null, .null, .null, .int 0, .int 0, .int 0, .int 0, .int 0, .null, .null, .null, .null]))) 1005 = some (.inr (5, [.ref 1001, .null, .null, .null, .int 0, .int 0, .int 0, .int 0, .int 0, .null, .null, .null, .null])) := am_up_eq _ _ _
  refine v_putF (am_Dk d_Rd_init (k := 7) rfl) f_Rd_15 rfl m1 (Nat.le_of_ble_eq_true rfl) rfl rfl ?_
  rw [am_uu0]
  refine v_aload_n (am_Dk d_Rd_init (k := 8) rfl) rfl ?_
  refine v_new (fs := [.null, .null, .int 0, .int 0, .long 0, .null, .int 0, .int 0]) (am_Dk d_Rd_init (k := 9) rfl) cq_ok6 n_Rd_19 i_Sg.1 i_Sg.2 (by decide) rfl (by omega) (by omega) ?_
  refine v_dup (am_Dk d_Rd_init (k := 10) rfl) rfl ?_
  refine v_aload_n (am_Dk d_Rd_init (k := 11) rfl) rfl ?_
  have m2 : (am_up (am_up M 1005 (.inr (5, [.ref 1001, .ref 1003, .null, .null, .int 0, .int 0, .int 0, .int 0, .int 0, .null, .null, .null, .null]))) 1006 (.inr (6, [.null, .null, .int 0, .int 0, .long 0, .null, .int 0, .int 0]))) 1006 = some (.inr (6, [.null, .null, .int 0, .int 0, .long 0, .null, .int 0, .int 0])) := am_up_eq _ _ _
  refine v_callI (rest := [.ref 1006, .ref 1005]) (As := [.ref 1001]) (mc' := 0) (ms' := 0) (am_Dk d_Rd_init (k := 12) rfl) c_Rd_21 (t_Sg_init G (d := 1) (by decide) m2) (by omega) (by omega) (by omega) (by simp [Value.category]) rfl (fun v3 M4 n5 h6 => ?_) (fun _ _ _ h6 => ?_)
  rotate_left
  · exact absurd h6.1 (by simp)
  obtain ⟨h6, e7, e8⟩ := h6
  replace e7 := e7.symm
  replace e8 := e8.symm
  subst e7
  subst e8
  cases h6
  rw [am_uu0]
  show am_V G _ _ _ _ _ 23 [(0, .ref 1005), (1, .ref 1001), (2, .ref 1003)] [.ref 1006, .ref 1005] (am_up (am_up M 1005 (.inr (5, [.ref 1001, .ref 1003, .null, .null, .int 0, .int 0, .int 0, .int 0, .int 0, .null, .null, .null, .null]))) 1006 (.inr (6, [.ref 1001, .ref 36, .int 0, .int 0, .long 0, .ref 0, .int 0, .int 0]))) 1007 1 8
  have m9 : (am_up (am_up M 1005 (.inr (5, [.ref 1001, .ref 1003, .null, .null, .int 0, .int 0, .int 0, .int 0, .int 0, .null, .null, .null, .null]))) 1006 (.inr (6, [.ref 1001, .ref 36, .int 0, .int 0, .long 0, .ref 0, .int 0, .int 0]))) 1005 = some (.inr (5, [.ref 1001, .ref 1003, .null, .null, .int 0, .int 0, .int 0, .int 0, .int 0, .null, .null, .null, .null])) := (am_up_ne (show 1005 ≠ 1006 from by decide)).trans (am_up_eq _ _ _)
  refine v_putF (am_Dk d_Rd_init (k := 13) rfl) f_Rd_24 rfl m9 (Nat.le_of_ble_eq_true rfl) rfl rfl ?_
  rw [am_uu1]
  refine v_aload_n (am_Dk d_Rd_init (k := 14) rfl) rfl ?_
  refine v_bipush (v := 100) (am_Dk d_Rd_init (k := 15) rfl) (by decide) ?_
  refine v_anew (t := 4) (N := 100) (am_Dk d_Rd_init (k := 16) rfl) n_Rd_28 (List.mem_append_right _ (List.mem_of_getElem? (i := 149) (by decide +kernel))) rfl (by decide) (by decide) (by decide) (by omega) (by omega) ?_
  have m10 : (am_up (am_up (am_up M 1006 (.inr (6, [.ref 1001, .ref 36, .int 0, .int 0, .long 0, .ref 0, .int 0, .int 0]))) 1005 (.inr (5, [.ref 1001, .ref 1003, .ref 1006, .null, .int 0, .int 0, .int 0, .int 0, .int 0, .null, .null, .null, .null]))) 1007 (.inl (4, 100, .inr (.inr (.inr (.inr (fun _ => none))))))) 1005 = some (.inr (5, [.ref 1001, .ref 1003, .ref 1006, .null, .int 0, .int 0, .int 0, .int 0, .int 0, .null, .null, .null, .null])) := (am_up_ne (show 1005 ≠ 1007 from by decide)).trans (am_up_eq _ _ _)
  refine v_putF (am_Dk d_Rd_init (k := 17) rfl) f_Rd_30 rfl m10 (Nat.le_of_ble_eq_true rfl) rfl rfl ?_
  rw [am_uu1]
  refine v_iconst (v := 0) (am_Dk d_Rd_init (k := 18) rfl) (by decide) ?_
  refine v_istore_n (L1 := [(3, .int 0), (0, .ref 1005), (1, .ref 1001), (2, .ref 1003)]) (am_Dk d_Rd_init (k := 19) rfl) (by decide) rfl ?_
  have m11 : (am_up (am_up (am_up M 1006 (.inr (6, [.ref 1001, .ref 36, .int 0, .int 0, .long 0, .ref 0, .int 0, .int 0]))) 1007 (.inl (4, 100, .inr (.inr (.inr (.inr (fun _ => none))))))) 1005 (.inr (5, [.ref 1001, .ref 1003, .ref 1006, .ref 1007, .int 0, .int 0, .int 0, .int 0, .int 0, .null, .null, .null, .null]))) 1005 = some (.inr (5, [.ref 1001, .ref 1003, .ref 1006, .ref 1007, .int 0, .int 0, .int 0, .int 0, .int 0, .null, .null, .null, .null])) := am_up_eq _ _ _
  have m12 : (am_up (am_up (am_up M 1006 (.inr (6, [.ref 1001, .ref 36, .int 0, .int 0, .long 0, .ref 0, .int 0, .int 0]))) 1007 (.inl (4, 100, .inr (.inr (.inr (.inr (fun _ => none))))))) 1005 (.inr (5, [.ref 1001, .ref 1003, .ref 1006, .ref 1007, .int 0, .int 0, .int 0, .int 0, .int 0, .null, .null, .null, .null]))) 1006 = some (.inr (6, [.ref 1001, .ref 36, .int 0, .int 0, .long 0, .ref 0, .int 0, .int 0])) := (am_up_ne (show 1006 ≠ 1005 from by decide)).trans ((am_up_ne (show 1006 ≠ 1007 from by decide)).trans (am_up_eq _ _ _))
  have m13 : (am_up (am_up (am_up M 1006 (.inr (6, [.ref 1001, .ref 36, .int 0, .int 0, .long 0, .ref 0, .int 0, .int 0]))) 1007 (.inl (4, 100, .inr (.inr (.inr (.inr (fun _ => none))))))) 1005 (.inr (5, [.ref 1001, .ref 1003, .ref 1006, .ref 1007, .int 0, .int 0, .int 0, .int 0, .int 0, .null, .null, .null, .null]))) 1007 = some (.inl (4, 100, .inr (.inr (.inr (.inr (fun _ => none)))))) := (am_up_ne (show 1007 ≠ 1005 from by decide)).trans (am_up_eq _ _ _)
  have e8 : (fun _ => none : Nat → Option Nat) = ci_arr 0 := by funext j; simp [ci_arr]
  refine rd_loop G hd 100 0 rfl _ ⟨m11, m12, by rw [← e8]; exact m13, fun j hj => absurd hj (Nat.not_lt_zero _), fun j hj => absurd hj (Nat.not_lt_zero _), fun k hk => ?_⟩
  exact (am_up_ne (show k ≠ 1005 from by omega)).trans ((am_up_ne (show k ≠ 1007 from by omega)).trans ((am_up_ne (show k ≠ 1006 from by omega)).trans (rfl)))
def vr_Q (M0 : am_M) : am_Qt := fun r M1 nx1 => r = .inl none ∧ nx1 = 1211 ∧ M1 1005 = some (.inr (5, [.ref 1001, .ref 1003, .ref 1006, .ref 1007, .int 0, .int 0, .int 0, .int 0, .int 0, .ref 0, .ref 1208, .ref 1209, .ref 1210])) ∧ M1 1006 = some (.inr (6, [.ref 1001, .ref 36, .int 0, .int 0, .long 0, .ref 0, .int 0, .int 0])) ∧ M1 1007 = some (.inl (4, 100, .inr (.inr (.inr (.inr (ci_arr 100)))))) ∧ ci_open 100 (fun _ => 38) (fun _ => 0) (fun _ => 0) (fun _ => 0) (fun _ => 0) M1 ∧ ci_oper 100 (fun _ => 0) (fun _ => 0) (fun _ => 0) (fun _ => 0) M1 ∧ M1 1208 = some (.inr (8, [.int 0, .long 0, .int 0, .int 0])) ∧ M1 1209 = some (.inr (8, [.int 0, .long 0, .int 0, .int 0])) ∧ M1 1210 = some (.inr (8, [.int 0, .long 0, .int 0, .int 0])) ∧ M1 1000 = some (.inr (0, [.ref 1001, .ref 1003, .ref 1005, .int (-1), .int 0])) ∧ M1 1001 = some (.inr (1, [.ref 1002, .int 0])) ∧ M1 1002 = some (.inl (0, 4096, .inl (fun _ => 0))) ∧ M1 1003 = some (.inr (2, [.ref 1004])) ∧ M1 1004 = some (.inr (3, [.int 0, .ref 54, .int 0])) ∧ ∀ k, k < 1000 → M1 k = M0 k
set_option maxRecDepth 20000 in
theorem t_VR_init (G : am_G) {d : Nat} (hd : 5 ≤ d) {M : am_M} (hM : M 1000 = some (.inr (0, [.null, .null, .null, .int 0, .int 0]))) : am_Tr G m_VR_init d 210 5235 [.ref 1000] M 1001 (fun r M1 nx1 => vr_Q M r M1 nx1) := by
  refine am_TrOf (by decide) (Nat.le_of_ble_eq_true rfl) ?_
  show am_V G _ _ _ _ _ 0 [(0, .ref 1000)] [] M 1001 0 0
  refine v_aload_n (am_Dk d_VR_init (k := 0) rfl) rfl ?_
  refine v_objInit (am_Dk d_VR_init (k := 1) rfl) o_VR_1 (by omega) (by simp [Value.category]) ?_
  refine v_aload_n (am_Dk d_VR_init (k := 2) rfl) rfl ?_
  refine v_new (fs := [.null, .int 0]) (am_Dk d_VR_init (k := 3) rfl) cq_ok1 n_VR_7 i_Tape.1 i_Tape.2 (by decide) rfl (by omega) (by omega) ?_
  refine v_dup (am_Dk d_VR_init (k := 4) rfl) rfl ?_
  have m1 : (am_up M 1001 (.inr (1, [.null, .int 0]))) 1001 = some (.inr (1, [.null, .int 0])) := am_up_eq _ _ _
  refine v_callI (rest := [.ref 1001, .ref 1000]) (As := []) (mc' := 1) (ms' := 4096) (am_Dk d_VR_init (k := 5) rfl) c_VR_9 (t_Tape_init G (d := 1) (by decide) (by omega) m1) (by omega) (by omega) (by omega) (by simp [Value.category]) rfl (fun v2 M3 n4 h5 => ?_) (fun _ _ _ h5 => ?_)
  rotate_left
  · exact absurd h5.1 (by simp)
  obtain ⟨h5, e6, e7⟩ := h5
  replace e6 := e6.symm
  replace e7 := e7.symm
  subst e6
  subst e7
  cases h5
  rw [am_uu1]
  show am_V G _ _ _ _ _ 12 [(0, .ref 1000)] [.ref 1001, .ref 1000] (am_up (am_up M 1002 (.inl (0, 4096, .inl (fun _ => 0)))) 1001 (.inr (1, [.ref 1002, .int 0]))) 1003 2 4098
  have m8 : (am_up (am_up M 1002 (.inl (0, 4096, .inl (fun _ => 0)))) 1001 (.inr (1, [.ref 1002, .int 0]))) 1000 = some (.inr (0, [.null, .null, .null, .int 0, .int 0])) := (am_up_ne (show 1000 ≠ 1001 from by decide)).trans ((am_up_ne (show 1000 ≠ 1002 from by decide)).trans (hM))
  refine v_putF (am_Dk d_VR_init (k := 6) rfl) f_VR_10 rfl m8 (Nat.le_of_ble_eq_true rfl) rfl rfl ?_
  refine v_aload_n (am_Dk d_VR_init (k := 7) rfl) rfl ?_
  refine v_new (fs := [.null]) (am_Dk d_VR_init (k := 8) rfl) cq_ok2 n_VR_16 i_Vars.1 i_Vars.2 (by decide) rfl (by omega) (by omega) ?_
  refine v_dup (am_Dk d_VR_init (k := 9) rfl) rfl ?_
  have m9 : (am_up (am_up (am_up (am_up M 1002 (.inl (0, 4096, .inl (fun _ => 0)))) 1001 (.inr (1, [.ref 1002, .int 0]))) 1000 (.inr (0, [.ref 1001, .null, .null, .int 0, .int 0]))) 1003 (.inr (2, [.null]))) 1003 = some (.inr (2, [.null])) := am_up_eq _ _ _
  refine v_callI (rest := [.ref 1003, .ref 1000]) (As := []) (mc' := 1) (ms' := 3) (am_Dk d_VR_init (k := 10) rfl) c_VR_18 (t_Vars_init G (d := 4) (by decide) (by omega) m9) (by omega) (by omega) (by omega) (by simp [Value.category]) rfl (fun v10 M11 n12 h13 => ?_) (fun _ _ _ h13 => ?_)
  rotate_left
  · exact absurd h13.1 (by simp)
  obtain ⟨h13, e14, e15⟩ := h13
  replace e14 := e14.symm
  replace e15 := e15.symm
  subst e14
  subst e15
  cases h13
  rw [am_uu1]
  show am_V G _ _ _ _ _ 23 [(0, .ref 1000)] [.ref 1003, .ref 1000] (am_up (am_up (am_up (am_up (am_up M 1002 (.inl (0, 4096, .inl (fun _ => 0)))) 1001 (.inr (1, [.ref 1002, .int 0]))) 1000 (.inr (0, [.ref 1001, .null, .null, .int 0, .int 0]))) 1004 (.inr (3, [.int 0, .ref 54, .int 0]))) 1003 (.inr (2, [.ref 1004]))) 1005 4 4102
  have m16 : (am_up (am_up (am_up (am_up (am_up M 1002 (.inl (0, 4096, .inl (fun _ => 0)))) 1001 (.inr (1, [.ref 1002, .int 0]))) 1000 (.inr (0, [.ref 1001, .null, .null, .int 0, .int 0]))) 1004 (.inr (3, [.int 0, .ref 54, .int 0]))) 1003 (.inr (2, [.ref 1004]))) 1000 = some (.inr (0, [.ref 1001, .null, .null, .int 0, .int 0])) := (am_up_ne (show 1000 ≠ 1003 from by decide)).trans ((am_up_ne (show 1000 ≠ 1004 from by decide)).trans (am_up_eq _ _ _))
  refine v_putF (am_Dk d_VR_init (k := 11) rfl) f_VR_19 rfl m16 (Nat.le_of_ble_eq_true rfl) rfl rfl ?_
  rw [am_uu2]
  refine v_aload_n (am_Dk d_VR_init (k := 12) rfl) rfl ?_
  refine v_new (fs := [.null, .null, .null, .null, .int 0, .int 0, .int 0, .int 0, .int 0, .null, .null, .null, .null]) (am_Dk d_VR_init (k := 13) rfl) cq_ok5 n_VR_23 i_Rd.1 i_Rd.2 (by decide) rfl (by omega) (by omega) ?_
  refine v_dup (am_Dk d_VR_init (k := 14) rfl) rfl ?_
  refine v_aload_n (am_Dk d_VR_init (k := 15) rfl) rfl ?_
  have m17 : (am_up (am_up (am_up (am_up (am_up (am_up M 1002 (.inl (0, 4096, .inl (fun _ => 0)))) 1001 (.inr (1, [.ref 1002, .int 0]))) 1004 (.inr (3, [.int 0, .ref 54, .int 0]))) 1003 (.inr (2, [.ref 1004]))) 1000 (.inr (0, [.ref 1001, .ref 1003, .null, .int 0, .int 0]))) 1005 (.inr (5, [.null, .null, .null, .null, .int 0, .int 0, .int 0, .int 0, .int 0, .null, .null, .null, .null]))) 1000 = some (.inr (0, [.ref 1001, .ref 1003, .null, .int 0, .int 0])) := (am_up_ne (show 1000 ≠ 1005 from by decide)).trans (am_up_eq _ _ _)
  refine v_get (am_Dk d_VR_init (k := 16) rfl) f_VR_10 m17 rfl ?_
  refine v_aload_n (am_Dk d_VR_init (k := 17) rfl) rfl ?_
  refine v_get (am_Dk d_VR_init (k := 18) rfl) f_VR_19 m17 rfl ?_
  have m18 : (am_up (am_up (am_up (am_up (am_up (am_up M 1002 (.inl (0, 4096, .inl (fun _ => 0)))) 1001 (.inr (1, [.ref 1002, .int 0]))) 1004 (.inr (3, [.int 0, .ref 54, .int 0]))) 1003 (.inr (2, [.ref 1004]))) 1000 (.inr (0, [.ref 1001, .ref 1003, .null, .int 0, .int 0]))) 1005 (.inr (5, [.null, .null, .null, .null, .int 0, .int 0, .int 0, .int 0, .int 0, .null, .null, .null, .null]))) 1005 = some (.inr (5, [.null, .null, .null, .null, .int 0, .int 0, .int 0, .int 0, .int 0, .null, .null, .null, .null])) := am_up_eq _ _ _
  refine v_callI (rest := [.ref 1005, .ref 1000]) (As := [.ref 1001, .ref 1003]) (mc' := 205) (ms' := 1120) (am_Dk d_VR_init (k := 19) rfl) c_VR_25 (t_Rd_init G (d := 3) (by decide) m18) (by omega) (by omega) (by omega) (by simp [Value.category]) rfl (fun v19 M20 n21 h22 => ?_) (fun _ _ _ h22 => ?_)
  rotate_left
  · exact absurd h22.1 (by simp)
  obtain ⟨h22, e1, r1, r2, r3, r4, r5, r6, r7, r8, r9⟩ := h22
  replace e1 := e1.symm
  subst e1
  cases h22
  have q0 : M20 1000 = some (.inr (0, [.ref 1001, .ref 1003, .null, .int 0, .int 0])) := (r9 1000 (by decide)).trans m17
  have m23 : (am_up (am_up (am_up (am_up (am_up (am_up M 1002 (.inl (0, 4096, .inl (fun _ => 0)))) 1001 (.inr (1, [.ref 1002, .int 0]))) 1004 (.inr (3, [.int 0, .ref 54, .int 0]))) 1003 (.inr (2, [.ref 1004]))) 1000 (.inr (0, [.ref 1001, .ref 1003, .null, .int 0, .int 0]))) 1005 (.inr (5, [.null, .null, .null, .null, .int 0, .int 0, .int 0, .int 0, .int 0, .null, .null, .null, .null]))) 1001 = some (.inr (1, [.ref 1002, .int 0])) := (am_up_ne (show 1001 ≠ 1005 from by decide)).trans ((am_up_ne (show 1001 ≠ 1000 from by decide)).trans ((am_up_ne (show 1001 ≠ 1003 from by decide)).trans ((am_up_ne (show 1001 ≠ 1004 from by decide)).trans (am_up_eq _ _ _))))
  have q1001 : M20 1001 = some (.inr (1, [.ref 1002, .int 0])) := (r9 1001 (by decide)).trans m23
  have m24 : (am_up (am_up (am_up (am_up (am_up (am_up M 1002 (.inl (0, 4096, .inl (fun _ => 0)))) 1001 (.inr (1, [.ref 1002, .int 0]))) 1004 (.inr (3, [.int 0, .ref 54, .int 0]))) 1003 (.inr (2, [.ref 1004]))) 1000 (.inr (0, [.ref 1001, .ref 1003, .null, .int 0, .int 0]))) 1005 (.inr (5, [.null, .null, .null, .null, .int 0, .int 0, .int 0, .int 0, .int 0, .null, .null, .null, .null]))) 1003 = some (.inr (2, [.ref 1004])) := (am_up_ne (show 1003 ≠ 1005 from by decide)).trans ((am_up_ne (show 1003 ≠ 1000 from by decide)).trans (am_up_eq _ _ _))
  have q1003 : M20 1003 = some (.inr (2, [.ref 1004])) := (r9 1003 (by decide)).trans m24
  have m25 : (am_up (am_up (am_up (am_up (am_up (am_up M 1002 (.inl (0, 4096, .inl (fun _ => 0)))) 1001 (.inr (1, [.ref 1002, .int 0]))) 1004 (.inr (3, [.int 0, .ref 54, .int 0]))) 1003 (.inr (2, [.ref 1004]))) 1000 (.inr (0, [.ref 1001, .ref 1003, .null, .int 0, .int 0]))) 1005 (.inr (5, [.null, .null, .null, .null, .int 0, .int 0, .int 0, .int 0, .int 0, .null, .null, .null, .null]))) 1004 = some (.inr (3, [.int 0, .ref 54, .int 0])) := (am_up_ne (show 1004 ≠ 1005 from by decide)).trans ((am_up_ne (show 1004 ≠ 1000 from by decide)).trans ((am_up_ne (show 1004 ≠ 1003 from by decide)).trans (am_up_eq _ _ _)))
  have q1004 : M20 1004 = some (.inr (3, [.int 0, .ref 54, .int 0])) := (r9 1004 (by decide)).trans m25
  have m26 : (am_up (am_up (am_up (am_up (am_up (am_up M 1002 (.inl (0, 4096, .inl (fun _ => 0)))) 1001 (.inr (1, [.ref 1002, .int 0]))) 1004 (.inr (3, [.int 0, .ref 54, .int 0]))) 1003 (.inr (2, [.ref 1004]))) 1000 (.inr (0, [.ref 1001, .ref 1003, .null, .int 0, .int 0]))) 1005 (.inr (5, [.null, .null, .null, .null, .int 0, .int 0, .int 0, .int 0, .int 0, .null, .null, .null, .null]))) 1002 = some (.inl (0, 4096, .inl (fun _ => 0))) := (am_up_ne (show 1002 ≠ 1005 from by decide)).trans ((am_up_ne (show 1002 ≠ 1000 from by decide)).trans ((am_up_ne (show 1002 ≠ 1003 from by decide)).trans ((am_up_ne (show 1002 ≠ 1004 from by decide)).trans ((am_up_ne (show 1002 ≠ 1001 from by decide)).trans (am_up_eq _ _ _)))))
  have q1002 : M20 1002 = some (.inl (0, 4096, .inl (fun _ => 0))) := (r9 1002 (by decide)).trans m26
  show am_V G _ _ _ _ _ 42 [(0, .ref 1000)] [.ref 1005, .ref 1000] M20 1211 210 5235
  refine v_putF (am_Dk d_VR_init (k := 20) rfl) f_VR_28 rfl q0 (Nat.le_of_ble_eq_true rfl) rfl rfl ?_
  refine v_aload_n (am_Dk d_VR_init (k := 21) rfl) rfl ?_
  refine v_iconst (v := (-1)) (am_Dk d_VR_init (k := 22) rfl) (by decide) ?_
  have m27 : (am_up M20 1000 (.inr (0, [.ref 1001, .ref 1003, .ref 1005, .int 0, .int 0]))) 1000 = some (.inr (0, [.ref 1001, .ref 1003, .ref 1005, .int 0, .int 0])) := am_up_eq _ _ _
  refine v_put (am_Dk d_VR_init (k := 23) rfl) f_VR_32 m27 (Nat.le_of_ble_eq_true rfl) rfl rfl ?_
  rw [am_uu0]
  refine v_aload_n (am_Dk d_VR_init (k := 24) rfl) rfl ?_
  refine v_iconst (v := 0) (am_Dk d_VR_init (k := 25) rfl) (by decide) ?_
  have m28 : (am_up M20 1000 (.inr (0, [.ref 1001, .ref 1003, .ref 1005, .int (-1), .int 0]))) 1000 = some (.inr (0, [.ref 1001, .ref 1003, .ref 1005, .int (-1), .int 0])) := am_up_eq _ _ _
  refine v_put (am_Dk d_VR_init (k := 26) rfl) f_VR_36 m28 (Nat.le_of_ble_eq_true rfl) rfl rfl ?_
  rw [am_uu0]
  have m29 : (am_up M20 1000 (.inr (0, [.ref 1001, .ref 1003, .ref 1005, .int (-1), .int 0]))) 1005 = some (.inr (5, [.ref 1001, .ref 1003, .ref 1006, .ref 1007, .int 0, .int 0, .int 0, .int 0, .int 0, .ref 0, .ref 1208, .ref 1209, .ref 1210])) := (am_up_ne (show 1005 ≠ 1000 from by decide)).trans (r1)
  have m30 : (am_up M20 1000 (.inr (0, [.ref 1001, .ref 1003, .ref 1005, .int (-1), .int 0]))) 1000 = some (.inr (0, [.ref 1001, .ref 1003, .ref 1005, .int (-1), .int 0])) := am_up_eq _ _ _
  refine v_return (am_Dk d_VR_init (k := 27) rfl) rfl (by omega) (by omega) ?_
  refine ⟨rfl, rfl, m29, (am_up_ne (show 1006 ≠ 1000 from by omega)).trans (r2), (am_up_ne (show 1007 ≠ 1000 from by omega)).trans (r3), fun j hj => ?_, fun j hj => ?_, (am_up_ne (show 1208 ≠ 1000 from by omega)).trans (r6), (am_up_ne (show 1209 ≠ 1000 from by omega)).trans (r7), (am_up_ne (show 1210 ≠ 1000 from by omega)).trans (r8), m30, (am_up_ne (show 1001 ≠ 1000 from by omega)).trans (q1001), (am_up_ne (show 1002 ≠ 1000 from by omega)).trans (q1002), (am_up_ne (show 1003 ≠ 1000 from by omega)).trans (q1003), (am_up_ne (show 1004 ≠ 1000 from by omega)).trans (q1004), fun k hk => ?_⟩
  · exact (am_up_ne (show 2 * j + 1008 ≠ 1000 from by omega)).trans (r4 j hj)
  · exact (am_up_ne (show 2 * j + 1009 ≠ 1000 from by omega)).trans (r5 j hj)
  · exact (am_up_ne (show k ≠ 1000 from by omega)).trans ((r9 k (by omega)).trans ((am_up_ne (show k ≠ 1005 from by omega)).trans ((am_up_ne (show k ≠ 1000 from by omega)).trans ((am_up_ne (show k ≠ 1003 from by omega)).trans ((am_up_ne (show k ≠ 1004 from by omega)).trans ((am_up_ne (show k ≠ 1001 from by omega)).trans ((am_up_ne (show k ≠ 1002 from by omega)).trans (rfl))))))))
