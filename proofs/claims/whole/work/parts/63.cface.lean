/-! VALUE, LET, HOLDS OF THE CLASS (mine; rows laid by the walker) -/
theorem nar_bi (b : Bool) : narrow FieldType.boolean (Value.int (bi b)) = Value.int (bi b) := by cases b <;> rfl
set_option maxRecDepth 20000 in
theorem t_VR_value (G : am_G) {d nx : Nat} (hd : 11 ≤ d) {M : am_M} {f : Nat → Int32} {n : Nat} (hb : tbB f) (hn : n ≤ 4096) {pl er : Int32} (h0 : M 1000 = some (.inr (0, [.ref 1001, .ref 1003, .ref 1005, .int pl, .int er]))) (h1 : M 1001 = some (.inr (1, [.ref 1002, .int (nI n)]))) (h2 : M 1002 = some (.inl (0, 4096, .inl f))) {c ed cap : Nat} {Vi Vb Vl : Nat → Nat} {Vg : Nat → Nat → Int32} {Vn : Nat → Int64} {R : Nat → Option Nat} {mcn : Int32} (hV : vs M c Vi Vb Vl Vg Vn ed cap R mcn) (hw : vw M c Vi Vb ed cap R nx) (hx : 1240 ≤ nx) (hc5 : c ≤ 50) (hS : cs0 M) {lf rt la : Opd} (hL : M 1208 = some (cs_O lf)) (hRt : M 1209 = some (cs_O rt)) (hLa : M 1210 = some (cs_O la)) {xK : List Frm} {xdu xdn : Bool} {xsy xou xna : Nat} {xpl xpr xle xl0 xl1 xre xr0 xr1 xe xa0 xb0 : Int32} {xlv xrv xv : Int64} (hR : c_fin f n (c_run f n (cl_lu c Vl Vg Vn f) 16384 (c_s0 lf rt la)) = (xK, xdu, xdn, xsy, xpl, xou, xpr, xna, (xle, xlv, xl0, xl1), (xre, xrv, xr0, xr1), (xe, xv, xa0, xb0))) : am_Tr G m_VR_value d 2 12 [.ref 1000] M nx (fun r M1 nx1 => nx ≤ nx1 ∧ nx1 ≤ nx + 1 ∧ (∀ i, (1001 < i ∧ i < 1005) ∨ (1210 < i ∧ i < nx) → M1 i = M i) ∧ M1 1001 = some (.inr (1, [.ref 1002, .int 0])) ∧ cs0 M1 ∧ ((¬ xpl = -1 ∧ (∃ y, r = .inr y ∧ M1 y = some (.inr (16, []))) ∧ M1 1000 = some (.inr (0, [.ref 1001, .ref 1003, .ref 1005, .int xpl, .int 0]))) ∨ (xpl = -1 ∧ ((¬ xe = 0 ∧ (∃ y, r = .inr y ∧ M1 y = some (.inr (15, []))) ∧ M1 1000 = some (.inr (0, [.ref 1001, .ref 1003, .ref 1005, .int (-1), .int xe]))) ∨ (xe = 0 ∧ r = .inl (some (.long xv)) ∧ M1 1000 = some (.inr (0, [.ref 1001, .ref 1003, .ref 1005, .int (-1), .int 0]))))))) := by
  refine am_TrOf (by decide) (Nat.le_of_ble_eq_true rfl) ?_
  show am_V G _ _ _ _ _ 0 [(0, .ref 1000)] [] M nx 0 0
  have hou : xou < 26 := ou_fin hn hR
  obtain ⟨⟨ou, dp, du, dn, sy, p5, h5⟩, ⟨kd, nm, p6, af, nf, nt, nu, h6⟩, h7, hX, _⟩ := hS
  obtain ⟨le, lv, l0, l1⟩ := lf
  obtain ⟨re, rv, r0, r1⟩ := rt
  obtain ⟨e0, v0, a0, b0⟩ := la
  refine v_aload_n (am_Dk d_VR_value (k := 0) rfl) rfl ?_
  refine v_get (am_Dk d_VR_value (k := 1) rfl) f_VR_28 h0 rfl ?_
  refine v_callV (rest := []) (As := []) (mc' := 0) (ms' := 0) (am_Dk d_VR_value (k := 2) rfl) c_VR_52 (Or.inl ⟨_, _, _, _, _, h5, cq_ok5⟩) (t_Rd_read G (d := 10) (by omega) h1 h2 hn hV h5 h6 h7 hX hL hRt hLa) (by omega) (by omega) (by omega) (by simp [Value.category]) rfl (fun v1 M2 n3 h4 => ?_) (fun _ _ _ h4 => ?_)
  rotate_left
  · exact absurd h4.1 (by simp)
  obtain ⟨h4, e8, hcs, hfr⟩ := h4
  cases h4
  replace e8 := e8.symm
  subst e8
  rw [hR] at hcs
  obtain ⟨k5, _, _, _, _, _, k8, k9, k10⟩ := id hcs
  have hc0 := cs_rest hcs
  have b1000 : M2 1000 = some (.inr (0, [.ref 1001, .ref 1003, .ref 1005, .int pl, .int er])) := (hfr 1000 (by omega)).trans h0
  have b1001 : M2 1001 = some (.inr (1, [.ref 1002, .int (nI n)])) := (hfr 1001 (by omega)).trans h1
  have b1002 : M2 1002 = some (.inl (0, 4096, .inl f)) := (hfr 1002 (by omega)).trans h2
  have b1003 : M2 1003 = some (.inr (2, [.ref 1004])) := (hfr 1003 (by omega)).trans hV.1
  have b1004 : M2 1004 = some (.inr (3, [.int mcn, .ref ed, .int (nI c)])) := (hfr 1004 (by omega)).trans hV.2.1
  have b1005 : M2 1005 = some (.inr (5, [.ref 1001, .ref 1003, .ref 1006, .ref 1007, .int (nI xK.length), .int (bi xdu), .int (bi xdn), .int (nI xsy), .int xpl, .ref xou, .ref 1208, .ref 1209, .ref 1210])) := k5
  have b1208 : M2 1208 = some (.inr (8, [.int xle, .long xlv, .int xl0, .int xl1])) := k8
  have b1209 : M2 1209 = some (.inr (8, [.int xre, .long xrv, .int xr0, .int xr1])) := k9
  have b1210 : M2 1210 = some (.inr (8, [.int xe, .long xv, .int xa0, .int xb0])) := k10
  show am_V G _ _ _ _ _ 7 [(0, .ref 1000)] [] M2 nx 0 0
  refine v_aload_n (am_Dk d_VR_value (k := 3) rfl) rfl ?_
  refine v_callV (rest := []) (As := []) (mc' := 1) (ms' := 6) (am_Dk d_VR_value (k := 4) rfl) c_VR_55 (Or.inl ⟨_, _, _, _, _, b1000, cq_ok0⟩) (t_VR_finishReading G (d := 6) (by omega) b1000 b1005 b1001 (by omega)) (by omega) (by omega) (by omega) (by simp [Value.category]) rfl (fun v5 M6 n7 h8 => ?_) (fun v5 M6 n7 h8 => ?_)
  · rcases h8 with ⟨hp, h8, e1, e2⟩ | ⟨hp, h8, e1, e2⟩
    · cases h8
      replace e1 := e1.symm
      replace e2 := e2.symm
      subst e1
      subst e2
      subst hp
      show am_V G _ _ _ _ _ 11 [(0, .ref 1000)] [] (am_up (am_up M2 1001 (.inr (1, [.ref 1002, .int 0]))) 1000 (.inr (0, [.ref 1001, .ref 1003, .ref 1005, .int (-1), .int 0]))) nx 1 6
      refine v_aload_n (am_Dk d_VR_value (k := 5) rfl) rfl ?_
      refine v_aload_n (am_Dk d_VR_value (k := 6) rfl) rfl ?_
      have m9 : (am_up (am_up M2 1001 (.inr (1, [.ref 1002, .int 0]))) 1000 (.inr (0, [.ref 1001, .ref 1003, .ref 1005, .int (-1), .int 0]))) 1000 = some (.inr (0, [.ref 1001, .ref 1003, .ref 1005, .int (-1), .int 0])) := am_up_eq _ _ _
      refine v_get (am_Dk d_VR_value (k := 7) rfl) f_VR_28 m9 rfl ?_
      have m10 : (am_up (am_up M2 1001 (.inr (1, [.ref 1002, .int 0]))) 1000 (.inr (0, [.ref 1001, .ref 1003, .ref 1005, .int (-1), .int 0]))) 1005 = some (.inr (5, [.ref 1001, .ref 1003, .ref 1006, .ref 1007, .int (nI xK.length), .int (bi xdu), .int (bi xdn), .int (nI xsy), .int (-1), .ref xou, .ref 1208, .ref 1209, .ref 1210])) := (am_up_ne (show 1005 ≠ 1000 from by decide)).trans ((am_up_ne (show 1005 ≠ 1001 from by decide)).trans (b1005))
      refine v_get9 (am_Dk d_VR_value (k := 8) rfl) r_VR_58 m10 rfl ?_
      have m11 : (am_up (am_up M2 1001 (.inr (1, [.ref 1002, .int 0]))) 1000 (.inr (0, [.ref 1001, .ref 1003, .ref 1005, .int (-1), .int 0]))) 1210 = some (.inr (8, [.int xe, .long xv, .int xa0, .int xb0])) := (am_up_ne (show 1210 ≠ 1000 from by decide)).trans ((am_up_ne (show 1210 ≠ 1001 from by decide)).trans (b1210))
      refine v_get (am_Dk d_VR_value (k := 9) rfl) f_VR_62 m11 rfl ?_
      refine v_callV (rest := []) (As := [.int xe]) (mc' := 1) (ms' := 6) (am_Dk d_VR_value (k := 10) rfl) c_VR_65 (Or.inl ⟨_, _, _, _, _, m9, cq_ok0⟩) (t_VR_refuseError G (d := 6) (by omega) m9 (by omega)) (by omega) (by omega) (by omega) (by simp [Value.category]) rfl (fun v12 M13 n14 h15 => ?_) (fun v12 M13 n14 h15 => ?_)
      · rcases h15 with ⟨he1, h15, e1, e2⟩ | ⟨he1, h15, e1, e2⟩
        · cases h15
          replace e1 := e1.symm
          replace e2 := e2.symm
          subst e1
          subst e2
          show am_V G _ _ _ _ _ 25 [(0, .ref 1000)] [] (am_up (am_up M2 1001 (.inr (1, [.ref 1002, .int 0]))) 1000 (.inr (0, [.ref 1001, .ref 1003, .ref 1005, .int (-1), .int 0]))) nx 2 12
          refine v_aload_n (am_Dk d_VR_value (k := 11) rfl) rfl ?_
          refine v_get (am_Dk d_VR_value (k := 12) rfl) f_VR_28 m9 rfl ?_
          refine v_get9 (am_Dk d_VR_value (k := 13) rfl) r_VR_58 m10 rfl ?_
          refine v_get (am_Dk d_VR_value (k := 14) rfl) f_VR_68 m11 rfl ?_
          exact v_lreturn (am_Dk d_VR_value (k := 15) rfl) rfl (by omega) (by omega) ⟨Nat.le_refl _, Nat.le_succ _, (fun i hi => (am_up_ne (show i ≠ 1000 from by omega)).trans ((am_up_ne (show i ≠ 1001 from by omega)).trans ((hfr i (by omega))))), (am_up_ne (show 1001 ≠ 1000 from by decide)).trans (am_up_eq _ _ _), cs0_fr hc0 (fun i q1 q2 => (am_up_ne (show i ≠ 1000 from by omega)).trans ((am_up_ne (show i ≠ 1001 from by omega)).trans (rfl))), Or.inr ⟨rfl, Or.inr ⟨he1, rfl, am_up_eq _ _ _⟩⟩⟩
        · cases h15
      · rcases h15 with ⟨he1, h15, e1, e2⟩ | ⟨he1, h15, e1, e2⟩
        · cases h15
        · cases h15
          replace e1 := e1.symm
          replace e2 := e2.symm
          subst e1
          subst e2
          rw [am_uu0 (a := 1000)]
          exact vt_leave (fun q hq => by cases hq) (by omega) (by omega) ⟨Nat.le_succ _, Nat.le_refl _, (fun i hi => (am_up_ne (show i ≠ nx from by omega)).trans ((am_up_ne (show i ≠ 1000 from by omega)).trans ((am_up_ne (show i ≠ 1001 from by omega)).trans ((hfr i (by omega)))))), (am_up_ne (show 1001 ≠ nx from by omega)).trans ((am_up_ne (show 1001 ≠ 1000 from by decide)).trans (am_up_eq _ _ _)), cs0_fr hc0 (fun i q1 q2 => (am_up_ne (show i ≠ nx from by omega)).trans ((am_up_ne (show i ≠ 1000 from by omega)).trans ((am_up_ne (show i ≠ 1001 from by omega)).trans (rfl)))), Or.inr ⟨rfl, Or.inl ⟨he1, ⟨_, rfl, am_up_eq _ _ _⟩, (am_up_ne (show 1000 ≠ nx from by omega)).trans (am_up_eq _ _ _)⟩⟩⟩
    · cases h8
  · rcases h8 with ⟨hp, h8, e1, e2⟩ | ⟨hp, h8, e1, e2⟩
    · cases h8
    · cases h8
      replace e1 := e1.symm
      replace e2 := e2.symm
      subst e1
      subst e2
      exact vt_leave (fun q hq => by cases hq) (by omega) (by omega) ⟨Nat.le_succ _, Nat.le_refl _, (fun i hi => (am_up_ne (show i ≠ nx from by omega)).trans ((am_up_ne (show i ≠ 1000 from by omega)).trans ((am_up_ne (show i ≠ 1001 from by omega)).trans ((hfr i (by omega)))))), (am_up_ne (show 1001 ≠ nx from by omega)).trans ((am_up_ne (show 1001 ≠ 1000 from by decide)).trans (am_up_eq _ _ _)), cs0_fr hc0 (fun i q1 q2 => (am_up_ne (show i ≠ nx from by omega)).trans ((am_up_ne (show i ≠ 1000 from by omega)).trans ((am_up_ne (show i ≠ 1001 from by omega)).trans (rfl)))), Or.inl ⟨hp, ⟨_, rfl, am_up_eq _ _ _⟩, (am_up_ne (show 1000 ≠ nx from by omega)).trans (am_up_eq _ _ _)⟩⟩
set_option maxRecDepth 20000 in
theorem t_VR_holds (G : am_G) {d nx : Nat} (hd : 11 ≤ d) {M : am_M} {f : Nat → Int32} {n : Nat} (hb : tbB f) (hn : n ≤ 4096) {pl er : Int32} (h0 : M 1000 = some (.inr (0, [.ref 1001, .ref 1003, .ref 1005, .int pl, .int er]))) (h1 : M 1001 = some (.inr (1, [.ref 1002, .int (nI n)]))) (h2 : M 1002 = some (.inl (0, 4096, .inl f))) {c ed cap : Nat} {Vi Vb Vl : Nat → Nat} {Vg : Nat → Nat → Int32} {Vn : Nat → Int64} {R : Nat → Option Nat} {mcn : Int32} (hV : vs M c Vi Vb Vl Vg Vn ed cap R mcn) (hw : vw M c Vi Vb ed cap R nx) (hx : 1240 ≤ nx) (hc5 : c ≤ 50) (hS : cs0 M) {lf rt la : Opd} (hL : M 1208 = some (cs_O lf)) (hRt : M 1209 = some (cs_O rt)) (hLa : M 1210 = some (cs_O la)) {xK : List Frm} {xdu xdn : Bool} {xsy xou xna : Nat} {xpl xpr xle xl0 xl1 xre xr0 xr1 xe xa0 xb0 : Int32} {xlv xrv xv : Int64} (hR : c_fin f n (c_run f n (cl_lu c Vl Vg Vn f) 16384 (c_s0 lf rt la)) = (xK, xdu, xdn, xsy, xpl, xou, xpr, xna, (xle, xlv, xl0, xl1), (xre, xrv, xr0, xr1), (xe, xv, xa0, xb0))) : am_Tr G m_VR_holds d 4 24 [.ref 1000] M nx (fun r M1 nx1 => nx ≤ nx1 ∧ nx1 ≤ nx + 1 ∧ (∀ i, (1001 < i ∧ i < 1005) ∨ (1210 < i ∧ i < nx) → M1 i = M i) ∧ M1 1001 = some (.inr (1, [.ref 1002, .int 0])) ∧ cs0 M1 ∧ ((¬ xpl = -1 ∧ (∃ y, r = .inr y ∧ M1 y = some (.inr (16, []))) ∧ M1 1000 = some (.inr (0, [.ref 1001, .ref 1003, .ref 1005, .int xpl, .int 0]))) ∨ (xpl = -1 ∧ ((cmpK xou = false ∧ (∃ y, r = .inr y ∧ M1 y = some (.inr (16, []))) ∧ M1 1000 = some (.inr (0, [.ref 1001, .ref 1003, .ref 1005, .int 0, .int 0]))) ∨ (cmpK xou = true ∧ ((¬ xle = 0 ∧ (∃ y, r = .inr y ∧ M1 y = some (.inr (15, []))) ∧ M1 1000 = some (.inr (0, [.ref 1001, .ref 1003, .ref 1005, .int (-1), .int xle]))) ∨ (xle = 0 ∧ ((¬ xre = 0 ∧ (∃ y, r = .inr y ∧ M1 y = some (.inr (15, []))) ∧ M1 1000 = some (.inr (0, [.ref 1001, .ref 1003, .ref 1005, .int (-1), .int xre]))) ∨ (xre = 0 ∧ r = .inl (some (.int (bi (truK xou xlv xrv)))) ∧ M1 1000 = some (.inr (0, [.ref 1001, .ref 1003, .ref 1005, .int (-1), .int 0]))))))))))) := by
  refine am_TrOf (by decide) (Nat.le_of_ble_eq_true rfl) ?_
  show am_V G _ _ _ _ _ 0 [(0, .ref 1000)] [] M nx 0 0
  have hou : xou < 26 := ou_fin hn hR
  obtain ⟨⟨ou, dp, du, dn, sy, p5, h5⟩, ⟨kd, nm, p6, af, nf, nt, nu, h6⟩, h7, hX, _⟩ := hS
  obtain ⟨le, lv, l0, l1⟩ := lf
  obtain ⟨re, rv, r0, r1⟩ := rt
  obtain ⟨e0, v0, a0, b0⟩ := la
  refine v_aload_n (am_Dk d_VR_holds (k := 0) rfl) rfl ?_
  refine v_get (am_Dk d_VR_holds (k := 1) rfl) f_VR_28 h0 rfl ?_
  refine v_callV (rest := []) (As := []) (mc' := 0) (ms' := 0) (am_Dk d_VR_holds (k := 2) rfl) c_VR_52 (Or.inl ⟨_, _, _, _, _, h5, cq_ok5⟩) (t_Rd_read G (d := 10) (by omega) h1 h2 hn hV h5 h6 h7 hX hL hRt hLa) (by omega) (by omega) (by omega) (by simp [Value.category]) rfl (fun v1 M2 n3 h4 => ?_) (fun _ _ _ h4 => ?_)
  rotate_left
  · exact absurd h4.1 (by simp)
  obtain ⟨h4, e8, hcs, hfr⟩ := h4
  cases h4
  replace e8 := e8.symm
  subst e8
  rw [hR] at hcs
  obtain ⟨k5, _, _, _, _, _, k8, k9, k10⟩ := id hcs
  have hc0 := cs_rest hcs
  have b1000 : M2 1000 = some (.inr (0, [.ref 1001, .ref 1003, .ref 1005, .int pl, .int er])) := (hfr 1000 (by omega)).trans h0
  have b1001 : M2 1001 = some (.inr (1, [.ref 1002, .int (nI n)])) := (hfr 1001 (by omega)).trans h1
  have b1002 : M2 1002 = some (.inl (0, 4096, .inl f)) := (hfr 1002 (by omega)).trans h2
  have b1003 : M2 1003 = some (.inr (2, [.ref 1004])) := (hfr 1003 (by omega)).trans hV.1
  have b1004 : M2 1004 = some (.inr (3, [.int mcn, .ref ed, .int (nI c)])) := (hfr 1004 (by omega)).trans hV.2.1
  have b1005 : M2 1005 = some (.inr (5, [.ref 1001, .ref 1003, .ref 1006, .ref 1007, .int (nI xK.length), .int (bi xdu), .int (bi xdn), .int (nI xsy), .int xpl, .ref xou, .ref 1208, .ref 1209, .ref 1210])) := k5
  have b1208 : M2 1208 = some (.inr (8, [.int xle, .long xlv, .int xl0, .int xl1])) := k8
  have b1209 : M2 1209 = some (.inr (8, [.int xre, .long xrv, .int xr0, .int xr1])) := k9
  have b1210 : M2 1210 = some (.inr (8, [.int xe, .long xv, .int xa0, .int xb0])) := k10
  show am_V G _ _ _ _ _ 7 [(0, .ref 1000)] [] M2 nx 0 0
  refine v_aload_n (am_Dk d_VR_holds (k := 3) rfl) rfl ?_
  refine v_callV (rest := []) (As := []) (mc' := 1) (ms' := 6) (am_Dk d_VR_holds (k := 4) rfl) c_VR_55 (Or.inl ⟨_, _, _, _, _, b1000, cq_ok0⟩) (t_VR_finishReading G (d := 6) (by omega) b1000 b1005 b1001 (by omega)) (by omega) (by omega) (by omega) (by simp [Value.category]) rfl (fun v5 M6 n7 h8 => ?_) (fun v5 M6 n7 h8 => ?_)
  · rcases h8 with ⟨hp, h8, e1, e2⟩ | ⟨hp, h8, e1, e2⟩
    · cases h8
      replace e1 := e1.symm
      replace e2 := e2.symm
      subst e1
      subst e2
      subst hp
      show am_V G _ _ _ _ _ 11 [(0, .ref 1000)] [] (am_up (am_up M2 1001 (.inr (1, [.ref 1002, .int 0]))) 1000 (.inr (0, [.ref 1001, .ref 1003, .ref 1005, .int (-1), .int 0]))) nx 1 6
      refine v_aload_n (am_Dk d_VR_holds (k := 5) rfl) rfl ?_
      refine v_aload_n (am_Dk d_VR_holds (k := 6) rfl) rfl ?_
      have m9 : (am_up (am_up M2 1001 (.inr (1, [.ref 1002, .int 0]))) 1000 (.inr (0, [.ref 1001, .ref 1003, .ref 1005, .int (-1), .int 0]))) 1000 = some (.inr (0, [.ref 1001, .ref 1003, .ref 1005, .int (-1), .int 0])) := am_up_eq _ _ _
      refine v_get (am_Dk d_VR_holds (k := 7) rfl) f_VR_28 m9 rfl ?_
      have m10 : (am_up (am_up M2 1001 (.inr (1, [.ref 1002, .int 0]))) 1000 (.inr (0, [.ref 1001, .ref 1003, .ref 1005, .int (-1), .int 0]))) 1005 = some (.inr (5, [.ref 1001, .ref 1003, .ref 1006, .ref 1007, .int (nI xK.length), .int (bi xdu), .int (bi xdn), .int (nI xsy), .int (-1), .ref xou, .ref 1208, .ref 1209, .ref 1210])) := (am_up_ne (show 1005 ≠ 1000 from by decide)).trans ((am_up_ne (show 1005 ≠ 1001 from by decide)).trans (b1005))
      refine v_get (am_Dk d_VR_holds (k := 8) rfl) f_VR_75 m10 rfl ?_
      refine v_callV (rest := [.ref 1000]) (As := []) (mc' := 0) (ms' := 0) (am_Dk d_VR_holds (k := 9) rfl) c_VR_129 (Or.inr (kn_all xou hou).1) (t_Nm_isComparison G (d := 0) (by omega) hou) (by omega) (by omega) (by omega) (by simp [Value.category]) rfl (fun v11 M12 n13 h14 => ?_) (fun _ _ _ h14 => ?_)
      rotate_left
      · exact absurd h14.1 (by simp)
      obtain ⟨h14, e15, e16⟩ := h14
      replace e15 := e15.symm
      replace e16 := e16.symm
      subst e15
      subst e16
      cases h14
      show am_V G _ _ _ _ _ 22 [(0, .ref 1000)] [.int (bi (cmpK xou)), .ref 1000] (am_up (am_up M2 1001 (.inr (1, [.ref 1002, .int 0]))) 1000 (.inr (0, [.ref 1001, .ref 1003, .ref 1005, .int (-1), .int 0]))) nx 1 6
      refine v_callV (rest := []) (As := [.int (bi (cmpK xou))]) (mc' := 1) (ms' := 6) (am_Dk d_VR_holds (k := 10) rfl) c_VR_88 (Or.inl ⟨_, _, _, _, _, m9, cq_ok0⟩) (t_VR_refuseSomethingElse G (d := 6) (b := (cmpK xou)) (by omega) m9 (by omega)) (by omega) (by omega) (by omega) (by simp [Value.category]) rfl (fun v17 M18 n19 h20 => ?_) (fun v17 M18 n19 h20 => ?_)
      · rcases h20 with ⟨hs, h20, e1, e2⟩ | ⟨hs, h20, e1, e2⟩
        · cases h20
          replace e1 := e1.symm
          replace e2 := e2.symm
          subst e1
          subst e2
          show am_V G _ _ _ _ _ 25 [(0, .ref 1000)] [] (am_up (am_up M2 1001 (.inr (1, [.ref 1002, .int 0]))) 1000 (.inr (0, [.ref 1001, .ref 1003, .ref 1005, .int (-1), .int 0]))) nx 2 12
          refine v_aload_n (am_Dk d_VR_holds (k := 11) rfl) rfl ?_
          refine v_aload_n (am_Dk d_VR_holds (k := 12) rfl) rfl ?_
          refine v_get (am_Dk d_VR_holds (k := 13) rfl) f_VR_28 m9 rfl ?_
          refine v_get9 (am_Dk d_VR_holds (k := 14) rfl) r_VR_72 m10 rfl ?_
          have m21 : (am_up (am_up M2 1001 (.inr (1, [.ref 1002, .int 0]))) 1000 (.inr (0, [.ref 1001, .ref 1003, .ref 1005, .int (-1), .int 0]))) 1208 = some (.inr (8, [.int xle, .long xlv, .int xl0, .int xl1])) := (am_up_ne (show 1208 ≠ 1000 from by decide)).trans ((am_up_ne (show 1208 ≠ 1001 from by decide)).trans (b1208))
          refine v_get (am_Dk d_VR_holds (k := 15) rfl) f_VR_62 m21 rfl ?_
          refine v_callV (rest := []) (As := [.int xle]) (mc' := 1) (ms' := 6) (am_Dk d_VR_holds (k := 16) rfl) c_VR_65 (Or.inl ⟨_, _, _, _, _, m9, cq_ok0⟩) (t_VR_refuseError G (d := 6) (by omega) m9 (by omega)) (by omega) (by omega) (by omega) (by simp [Value.category]) rfl (fun v22 M23 n24 h25 => ?_) (fun v22 M23 n24 h25 => ?_)
          · rcases h25 with ⟨he1, h25, e1, e2⟩ | ⟨he1, h25, e1, e2⟩
            · cases h25
              replace e1 := e1.symm
              replace e2 := e2.symm
              subst e1
              subst e2
              show am_V G _ _ _ _ _ 39 [(0, .ref 1000)] [] (am_up (am_up M2 1001 (.inr (1, [.ref 1002, .int 0]))) 1000 (.inr (0, [.ref 1001, .ref 1003, .ref 1005, .int (-1), .int 0]))) nx 3 18
              refine v_aload_n (am_Dk d_VR_holds (k := 17) rfl) rfl ?_
              refine v_aload_n (am_Dk d_VR_holds (k := 18) rfl) rfl ?_
              refine v_get (am_Dk d_VR_holds (k := 19) rfl) f_VR_28 m9 rfl ?_
              refine v_get9 (am_Dk d_VR_holds (k := 20) rfl) r_VR_92 m10 rfl ?_
              have m26 : (am_up (am_up M2 1001 (.inr (1, [.ref 1002, .int 0]))) 1000 (.inr (0, [.ref 1001, .ref 1003, .ref 1005, .int (-1), .int 0]))) 1209 = some (.inr (8, [.int xre, .long xrv, .int xr0, .int xr1])) := (am_up_ne (show 1209 ≠ 1000 from by decide)).trans ((am_up_ne (show 1209 ≠ 1001 from by decide)).trans (b1209))
              refine v_get (am_Dk d_VR_holds (k := 21) rfl) f_VR_62 m26 rfl ?_
              refine v_callV (rest := []) (As := [.int xre]) (mc' := 1) (ms' := 6) (am_Dk d_VR_holds (k := 22) rfl) c_VR_65 (Or.inl ⟨_, _, _, _, _, m9, cq_ok0⟩) (t_VR_refuseError G (d := 6) (by omega) m9 (by omega)) (by omega) (by omega) (by omega) (by simp [Value.category]) rfl (fun v27 M28 n29 h30 => ?_) (fun v27 M28 n29 h30 => ?_)
              · rcases h30 with ⟨he2, h30, e1, e2⟩ | ⟨he2, h30, e1, e2⟩
                · cases h30
                  replace e1 := e1.symm
                  replace e2 := e2.symm
                  subst e1
                  subst e2
                  show am_V G _ _ _ _ _ 53 [(0, .ref 1000)] [] (am_up (am_up M2 1001 (.inr (1, [.ref 1002, .int 0]))) 1000 (.inr (0, [.ref 1001, .ref 1003, .ref 1005, .int (-1), .int 0]))) nx 4 24
                  refine v_aload_n (am_Dk d_VR_holds (k := 23) rfl) rfl ?_
                  refine v_get (am_Dk d_VR_holds (k := 24) rfl) f_VR_28 m9 rfl ?_
                  refine v_get (am_Dk d_VR_holds (k := 25) rfl) f_VR_75 m10 rfl ?_
                  refine v_aload_n (am_Dk d_VR_holds (k := 26) rfl) rfl ?_
                  refine v_get (am_Dk d_VR_holds (k := 27) rfl) f_VR_28 m9 rfl ?_
                  refine v_get9 (am_Dk d_VR_holds (k := 28) rfl) r_VR_72 m10 rfl ?_
                  refine v_get (am_Dk d_VR_holds (k := 29) rfl) f_VR_68 m21 rfl ?_
                  refine v_aload_n (am_Dk d_VR_holds (k := 30) rfl) rfl ?_
                  refine v_get (am_Dk d_VR_holds (k := 31) rfl) f_VR_28 m9 rfl ?_
                  refine v_get9 (am_Dk d_VR_holds (k := 32) rfl) r_VR_92 m10 rfl ?_
                  refine v_get (am_Dk d_VR_holds (k := 33) rfl) f_VR_68 m26 rfl ?_
                  refine v_callV (rest := []) (As := [.long xlv, .long xrv]) (mc' := 0) (ms' := 0) (am_Dk d_VR_holds (k := 34) rfl) c_VR_132 (Or.inr (kn_all xou hou).1) (t_Nm_isTrueOf G (d := 1) (by omega) hs) (by omega) (by omega) (by omega) (by simp [Value.category]) rfl (fun v31 M32 n33 h34 => ?_) (fun _ _ _ h34 => ?_)
                  rotate_left
                  · exact absurd h34.1 (by simp)
                  obtain ⟨h34, e35, e36⟩ := h34
                  replace e35 := e35.symm
                  replace e36 := e36.symm
                  subst e35
                  subst e36
                  cases h34
                  show am_V G _ _ _ _ _ 83 [(0, .ref 1000)] [.int (bi (truK xou xlv xrv))] (am_up (am_up M2 1001 (.inr (1, [.ref 1002, .int 0]))) 1000 (.inr (0, [.ref 1001, .ref 1003, .ref 1005, .int (-1), .int 0]))) nx 4 24
                  exact v_ireturn (am_Dk d_VR_holds (k := 35) rfl) rfl (nar_bi _) (by omega) (by omega) ⟨Nat.le_refl _, Nat.le_succ _, (fun i hi => (am_up_ne (show i ≠ 1000 from by omega)).trans ((am_up_ne (show i ≠ 1001 from by omega)).trans ((hfr i (by omega))))), (am_up_ne (show 1001 ≠ 1000 from by decide)).trans (am_up_eq _ _ _), cs0_fr hc0 (fun i q1 q2 => (am_up_ne (show i ≠ 1000 from by omega)).trans ((am_up_ne (show i ≠ 1001 from by omega)).trans (rfl))), Or.inr ⟨rfl, Or.inr ⟨hs, Or.inr ⟨he1, Or.inr ⟨he2, rfl, am_up_eq _ _ _⟩⟩⟩⟩⟩
                · cases h30
              · rcases h30 with ⟨he2, h30, e1, e2⟩ | ⟨he2, h30, e1, e2⟩
                · cases h30
                · cases h30
                  replace e1 := e1.symm
                  replace e2 := e2.symm
                  subst e1
                  subst e2
                  rw [am_uu0 (a := 1000)]
                  exact vt_leave (fun q hq => by cases hq) (by omega) (by omega) ⟨Nat.le_succ _, Nat.le_refl _, (fun i hi => (am_up_ne (show i ≠ nx from by omega)).trans ((am_up_ne (show i ≠ 1000 from by omega)).trans ((am_up_ne (show i ≠ 1001 from by omega)).trans ((hfr i (by omega)))))), (am_up_ne (show 1001 ≠ nx from by omega)).trans ((am_up_ne (show 1001 ≠ 1000 from by decide)).trans (am_up_eq _ _ _)), cs0_fr hc0 (fun i q1 q2 => (am_up_ne (show i ≠ nx from by omega)).trans ((am_up_ne (show i ≠ 1000 from by omega)).trans ((am_up_ne (show i ≠ 1001 from by omega)).trans (rfl)))), Or.inr ⟨rfl, Or.inr ⟨hs, Or.inr ⟨he1, Or.inl ⟨he2, ⟨_, rfl, am_up_eq _ _ _⟩, (am_up_ne (show 1000 ≠ nx from by omega)).trans (am_up_eq _ _ _)⟩⟩⟩⟩⟩
            · cases h25
          · rcases h25 with ⟨he1, h25, e1, e2⟩ | ⟨he1, h25, e1, e2⟩
            · cases h25
            · cases h25
              replace e1 := e1.symm
              replace e2 := e2.symm
              subst e1
              subst e2
              rw [am_uu0 (a := 1000)]
              exact vt_leave (fun q hq => by cases hq) (by omega) (by omega) ⟨Nat.le_succ _, Nat.le_refl _, (fun i hi => (am_up_ne (show i ≠ nx from by omega)).trans ((am_up_ne (show i ≠ 1000 from by omega)).trans ((am_up_ne (show i ≠ 1001 from by omega)).trans ((hfr i (by omega)))))), (am_up_ne (show 1001 ≠ nx from by omega)).trans ((am_up_ne (show 1001 ≠ 1000 from by decide)).trans (am_up_eq _ _ _)), cs0_fr hc0 (fun i q1 q2 => (am_up_ne (show i ≠ nx from by omega)).trans ((am_up_ne (show i ≠ 1000 from by omega)).trans ((am_up_ne (show i ≠ 1001 from by omega)).trans (rfl)))), Or.inr ⟨rfl, Or.inr ⟨hs, Or.inl ⟨he1, ⟨_, rfl, am_up_eq _ _ _⟩, (am_up_ne (show 1000 ≠ nx from by omega)).trans (am_up_eq _ _ _)⟩⟩⟩⟩
        · cases h20
      · rcases h20 with ⟨hs, h20, e1, e2⟩ | ⟨hs, h20, e1, e2⟩
        · cases h20
        · cases h20
          replace e1 := e1.symm
          replace e2 := e2.symm
          subst e1
          subst e2
          rw [am_uu0 (a := 1000)]
          exact vt_leave (fun q hq => by cases hq) (by omega) (by omega) ⟨Nat.le_succ _, Nat.le_refl _, (fun i hi => (am_up_ne (show i ≠ nx from by omega)).trans ((am_up_ne (show i ≠ 1000 from by omega)).trans ((am_up_ne (show i ≠ 1001 from by omega)).trans ((hfr i (by omega)))))), (am_up_ne (show 1001 ≠ nx from by omega)).trans ((am_up_ne (show 1001 ≠ 1000 from by decide)).trans (am_up_eq _ _ _)), cs0_fr hc0 (fun i q1 q2 => (am_up_ne (show i ≠ nx from by omega)).trans ((am_up_ne (show i ≠ 1000 from by omega)).trans ((am_up_ne (show i ≠ 1001 from by omega)).trans (rfl)))), Or.inr ⟨rfl, Or.inl ⟨hs, ⟨_, rfl, am_up_eq _ _ _⟩, (am_up_ne (show 1000 ≠ nx from by omega)).trans (am_up_eq _ _ _)⟩⟩⟩
    · cases h8
  · rcases h8 with ⟨hp, h8, e1, e2⟩ | ⟨hp, h8, e1, e2⟩
    · cases h8
    · cases h8
      replace e1 := e1.symm
      replace e2 := e2.symm
      subst e1
      subst e2
      exact vt_leave (fun q hq => by cases hq) (by omega) (by omega) ⟨Nat.le_succ _, Nat.le_refl _, (fun i hi => (am_up_ne (show i ≠ nx from by omega)).trans ((am_up_ne (show i ≠ 1000 from by omega)).trans ((am_up_ne (show i ≠ 1001 from by omega)).trans ((hfr i (by omega)))))), (am_up_ne (show 1001 ≠ nx from by omega)).trans ((am_up_ne (show 1001 ≠ 1000 from by decide)).trans (am_up_eq _ _ _)), cs0_fr hc0 (fun i q1 q2 => (am_up_ne (show i ≠ nx from by omega)).trans ((am_up_ne (show i ≠ 1000 from by omega)).trans ((am_up_ne (show i ≠ 1001 from by omega)).trans (rfl)))), Or.inl ⟨hp, ⟨_, rfl, am_up_eq _ _ _⟩, (am_up_ne (show 1000 ≠ nx from by omega)).trans (am_up_eq _ _ _)⟩⟩
set_option maxRecDepth 20000 in
theorem t_VR_let (G : am_G) {d nx : Nat} (hd : 11 ≤ d) {M : am_M} {f : Nat → Int32} {n : Nat} (hb : tbB f) (hn : n ≤ 4096) {pl er : Int32} (h0 : M 1000 = some (.inr (0, [.ref 1001, .ref 1003, .ref 1005, .int pl, .int er]))) (h1 : M 1001 = some (.inr (1, [.ref 1002, .int (nI n)]))) (h2 : M 1002 = some (.inl (0, 4096, .inl f))) {c ed cap : Nat} {Vi Vb Vl : Nat → Nat} {Vg : Nat → Nat → Int32} {Vn : Nat → Int64} {R : Nat → Option Nat} {mcn : Int32} (hV : vs M c Vi Vb Vl Vg Vn ed cap R mcn) (hw : vw M c Vi Vb ed cap R nx) (hx : 1240 ≤ nx) (hc5 : c ≤ 50) (hS : cs0 M) {lf rt la : Opd} (hL : M 1208 = some (cs_O lf)) (hRt : M 1209 = some (cs_O rt)) (hLa : M 1210 = some (cs_O la)) {xK : List Frm} {xdu xdn : Bool} {xsy xou xna : Nat} {xpl xpr xle xl0 xl1 xre xr0 xr1 xe xa0 xb0 : Int32} {xlv xrv xv : Int64} (hR : c_fin f n (c_run f n (cl_lu c Vl Vg Vn f) 16384 (c_s0 lf rt la)) = (xK, xdu, xdn, xsy, xpl, xou, xpr, xna, (xle, xlv, xl0, xl1), (xre, xrv, xr0, xr1), (xe, xv, xa0, xb0))) : am_Tr G m_VR_let d 7 4197 [.ref 1000] M nx (fun r M1 nx1 => nx ≤ nx1 ∧ nx1 ≤ nx + 4 ∧ (∀ i, i = 1002 ∨ (1210 < i ∧ i < 1240) → M1 i = M i) ∧ M1 1001 = some (.inr (1, [.ref 1002, .int 0])) ∧ cs0 M1 ∧ ((¬ xpl = -1 ∧ (∃ y, r = .inr y ∧ M1 y = some (.inr (16, []))) ∧ M1 1000 = some (.inr (0, [.ref 1001, .ref 1003, .ref 1005, .int xpl, .int 0])) ∧ vz M1 c Vl Vg Vn nx1) ∨ (xpl = -1 ∧ ((¬ (xou = 10 ∧ xl0 < xl1) ∧ (∃ y, r = .inr y ∧ M1 y = some (.inr (16, []))) ∧ M1 1000 = some (.inr (0, [.ref 1001, .ref 1003, .ref 1005, .int 0, .int 0])) ∧ vz M1 c Vl Vg Vn nx1) ∨ ((xou = 10 ∧ xl0 < xl1) ∧ ((¬ xre = 0 ∧ (∃ y, r = .inr y ∧ M1 y = some (.inr (15, []))) ∧ M1 1000 = some (.inr (0, [.ref 1001, .ref 1003, .ref 1005, .int (-1), .int xre])) ∧ vz M1 c Vl Vg Vn nx1) ∨ (xre = 0 ∧ M1 1000 = some (.inr (0, [.ref 1001, .ref 1003, .ref 1005, .int (-1), .int 0])) ∧ ∃ p e, xl0 = nI p ∧ xl1 = nI e ∧ p < e ∧ e ≤ n ∧ ¬ (e = p + 1 ∧ tb f n p = 95) ∧ ((∃ i, vfF (vmt Vl Vg (e - p) (fun j => f (p + j))) c 0 = some i ∧ r = .inl (some (.int (nI c))) ∧ vz M1 c Vl Vg (vp_updL Vn i xrv) nx1) ∨ (vfF (vmt Vl Vg (e - p) (fun j => f (p + j))) c 0 = none ∧ c = 50 ∧ (∃ y, r = .inr y ∧ M1 y = some (.inr (13, []))) ∧ vz M1 c Vl Vg Vn nx1) ∨ (vfF (vmt Vl Vg (e - p) (fun j => f (p + j))) c 0 = none ∧ c < 50 ∧ r = .inl (some (.int (nI (c + 1)))) ∧ vz M1 (c + 1) (nwL Vl c (e - p)) (nwG Vg c (va_cpy f (fun _ => 0) p 0 (e - p))) (vp_updL Vn c xrv) nx1))))))))) := by
  refine am_TrOf (by decide) (Nat.le_of_ble_eq_true rfl) ?_
  show am_V G _ _ _ _ _ 0 [(0, .ref 1000)] [] M nx 0 0
  have hou : xou < 26 := ou_fin hn hR
  obtain ⟨⟨ou, dp, du, dn, sy, p5, h5⟩, ⟨kd, nm, p6, af, nf, nt, nu, h6⟩, h7, hX, _⟩ := hS
  obtain ⟨le, lv, l0, l1⟩ := lf
  obtain ⟨re, rv, r0, r1⟩ := rt
  obtain ⟨e0, v0, a0, b0⟩ := la
  have hvz0 : vz M c Vl Vg Vn nx := ⟨Vi, Vb, ed, cap, R, mcn, hV, hw⟩
  have hed : (ed = 54 ∨ 1240 ≤ ed) ∧ ed < nx := by
    rcases hw.1 with ⟨g1, _⟩ | ⟨g1, g2, _⟩
    · omega
    · omega
  refine v_aload_n (am_Dk d_VR_let (k := 0) rfl) rfl ?_
  refine v_get (am_Dk d_VR_let (k := 1) rfl) f_VR_28 h0 rfl ?_
  refine v_callV (rest := []) (As := []) (mc' := 0) (ms' := 0) (am_Dk d_VR_let (k := 2) rfl) c_VR_52 (Or.inl ⟨_, _, _, _, _, h5, cq_ok5⟩) (t_Rd_read G (d := 10) (by omega) h1 h2 hn hV h5 h6 h7 hX hL hRt hLa) (by omega) (by omega) (by omega) (by simp [Value.category]) rfl (fun v1 M2 n3 h4 => ?_) (fun _ _ _ h4 => ?_)
  rotate_left
  · exact absurd h4.1 (by simp)
  obtain ⟨h4, e8, hcs, hfr⟩ := h4
  cases h4
  replace e8 := e8.symm
  subst e8
  rw [hR] at hcs
  obtain ⟨k5, _, _, _, _, _, k8, k9, k10⟩ := id hcs
  have hc0 := cs_rest hcs
  have b1000 : M2 1000 = some (.inr (0, [.ref 1001, .ref 1003, .ref 1005, .int pl, .int er])) := (hfr 1000 (by omega)).trans h0
  have b1001 : M2 1001 = some (.inr (1, [.ref 1002, .int (nI n)])) := (hfr 1001 (by omega)).trans h1
  have b1002 : M2 1002 = some (.inl (0, 4096, .inl f)) := (hfr 1002 (by omega)).trans h2
  have b1003 : M2 1003 = some (.inr (2, [.ref 1004])) := (hfr 1003 (by omega)).trans hV.1
  have b1004 : M2 1004 = some (.inr (3, [.int mcn, .ref ed, .int (nI c)])) := (hfr 1004 (by omega)).trans hV.2.1
  have b1005 : M2 1005 = some (.inr (5, [.ref 1001, .ref 1003, .ref 1006, .ref 1007, .int (nI xK.length), .int (bi xdu), .int (bi xdn), .int (nI xsy), .int xpl, .ref xou, .ref 1208, .ref 1209, .ref 1210])) := k5
  have b1208 : M2 1208 = some (.inr (8, [.int xle, .long xlv, .int xl0, .int xl1])) := k8
  have b1209 : M2 1209 = some (.inr (8, [.int xre, .long xrv, .int xr0, .int xr1])) := k9
  have b1210 : M2 1210 = some (.inr (8, [.int xe, .long xv, .int xa0, .int xb0])) := k10
  show am_V G _ _ _ _ _ 7 [(0, .ref 1000)] [] M2 nx 0 0
  refine v_aload_n (am_Dk d_VR_let (k := 3) rfl) rfl ?_
  refine v_callV (rest := []) (As := []) (mc' := 1) (ms' := 6) (am_Dk d_VR_let (k := 4) rfl) c_VR_55 (Or.inl ⟨_, _, _, _, _, b1000, cq_ok0⟩) (t_VR_finishReading G (d := 6) (by omega) b1000 b1005 b1001 (by omega)) (by omega) (by omega) (by omega) (by simp [Value.category]) rfl (fun v5 M6 n7 h8 => ?_) (fun v5 M6 n7 h8 => ?_)
  · rcases h8 with ⟨hp, h8, e1, e2⟩ | ⟨hp, h8, e1, e2⟩
    · cases h8
      replace e1 := e1.symm
      replace e2 := e2.symm
      subst e1
      subst e2
      subst hp
      show am_V G _ _ _ _ _ 11 [(0, .ref 1000)] [] (am_up (am_up M2 1001 (.inr (1, [.ref 1002, .int 0]))) 1000 (.inr (0, [.ref 1001, .ref 1003, .ref 1005, .int (-1), .int 0]))) nx 1 6
      refine v_aload_n (am_Dk d_VR_let (k := 5) rfl) rfl ?_
      have m9 : (am_up (am_up M2 1001 (.inr (1, [.ref 1002, .int 0]))) 1000 (.inr (0, [.ref 1001, .ref 1003, .ref 1005, .int (-1), .int 0]))) 1000 = some (.inr (0, [.ref 1001, .ref 1003, .ref 1005, .int (-1), .int 0])) := am_up_eq _ _ _
      refine v_get (am_Dk d_VR_let (k := 6) rfl) f_VR_28 m9 rfl ?_
      have m10 : (am_up (am_up M2 1001 (.inr (1, [.ref 1002, .int 0]))) 1000 (.inr (0, [.ref 1001, .ref 1003, .ref 1005, .int (-1), .int 0]))) 1005 = some (.inr (5, [.ref 1001, .ref 1003, .ref 1006, .ref 1007, .int (nI xK.length), .int (bi xdu), .int (bi xdn), .int (nI xsy), .int (-1), .ref xou, .ref 1208, .ref 1209, .ref 1210])) := (am_up_ne (show 1005 ≠ 1000 from by decide)).trans ((am_up_ne (show 1005 ≠ 1001 from by decide)).trans (b1005))
      refine v_get9 (am_Dk d_VR_let (k := 7) rfl) r_VR_72 m10 rfl ?_
      refine v_astore_n (L1 := [(1, .ref 1208), (0, .ref 1000)]) (am_Dk d_VR_let (k := 8) rfl) (by decide) rfl ?_
      refine v_aload_n (am_Dk d_VR_let (k := 9) rfl) rfl ?_
      refine v_aload_n (am_Dk d_VR_let (k := 10) rfl) rfl ?_
      refine v_get (am_Dk d_VR_let (k := 11) rfl) f_VR_28 m9 rfl ?_
      refine v_get (am_Dk d_VR_let (k := 12) rfl) f_VR_75 m10 rfl ?_
      refine v_gets (v := .ref 10) (am_Dk d_VR_let (k := 13) rfl) s_VR_79 (by decide +kernel) ?_
      refine v_acmp_ne (rx := (some xou)) (ry := (some 10)) (tgt := 44) (am_Dk d_VR_let (k := 14) rfl) rfl rfl (by decide) (en_N (by omega) (by decide)) (fun c11 => ?_) (fun c11 => ?_)
      · have hQ : ¬ xou = 10 := fun z => c11 (congrArg some z)
        have hno : ¬ (xou = 10 ∧ xl0 < xl1) := fun z => hQ z.1
        refine v_iconst (v := 0) (am_Dk d_VR_let (k := 20) rfl) (by decide) ?_
        refine v_callV (rest := []) (As := [.int 0]) (mc' := 1) (ms' := 6) (am_Dk d_VR_let (k := 21) rfl) c_VR_88 (Or.inl ⟨_, _, _, _, _, m9, cq_ok0⟩) (t_VR_refuseSomethingElse G (d := 6) (b := false) (by omega) m9 (by omega)) (by omega) (by omega) (by omega) (by simp [Value.category]) rfl (fun v12 M13 n14 h15 => ?_) (fun v12 M13 n14 h15 => ?_)
        · rcases h15 with ⟨hs, h15, e1, e2⟩ | ⟨hs, h15, e1, e2⟩
          · exact absurd hs (by decide)
          · cases h15
        · rcases h15 with ⟨hs, h15, e1, e2⟩ | ⟨hs, h15, e1, e2⟩
          · cases h15
          · cases h15
            replace e1 := e1.symm
            replace e2 := e2.symm
            subst e1
            subst e2
            rw [am_uu0 (a := 1000)]
            exact vt_leave (fun q hq => by cases hq) (by omega) (by omega) ⟨by omega, by omega, (fun i hi => (am_up_ne (show i ≠ nx from by omega)).trans ((am_up_ne (show i ≠ 1000 from by omega)).trans ((am_up_ne (show i ≠ 1001 from by omega)).trans ((hfr i (by omega)))))), (am_up_ne (show 1001 ≠ nx from by omega)).trans ((am_up_ne (show 1001 ≠ 1000 from by decide)).trans (am_up_eq _ _ _)), cs0_fr hc0 (fun i q1 q2 => (am_up_ne (show i ≠ nx from by omega)).trans ((am_up_ne (show i ≠ 1000 from by omega)).trans ((am_up_ne (show i ≠ 1001 from by omega)).trans (rfl)))), Or.inr ⟨rfl, Or.inl ⟨hno, ⟨_, rfl, am_up_eq _ _ _⟩, (am_up_ne (show 1000 ≠ nx from by omega)).trans (am_up_eq _ _ _), vz_fr hvz0 (by omega) ((am_up_ne (show 1003 ≠ nx from by omega)).trans ((am_up_ne (show 1003 ≠ 1000 from by omega)).trans ((am_up_ne (show 1003 ≠ 1001 from by omega)).trans ((hfr 1003 (by omega)))))) ((am_up_ne (show 1004 ≠ nx from by omega)).trans ((am_up_ne (show 1004 ≠ 1000 from by omega)).trans ((am_up_ne (show 1004 ≠ 1001 from by omega)).trans ((hfr 1004 (by omega)))))) (fun i q1 q2 => (am_up_ne (show i ≠ nx from by omega)).trans ((am_up_ne (show i ≠ 1000 from by omega)).trans ((am_up_ne (show i ≠ 1001 from by omega)).trans ((hfr i (by omega))))))⟩⟩⟩
      · have hQ : xou = 10 := Option.some.inj c11
        refine v_aload_n (am_Dk d_VR_let (k := 15) rfl) rfl ?_
        have m16 : (am_up (am_up M2 1001 (.inr (1, [.ref 1002, .int 0]))) 1000 (.inr (0, [.ref 1001, .ref 1003, .ref 1005, .int (-1), .int 0]))) 1208 = some (.inr (8, [.int xle, .long xlv, .int xl0, .int xl1])) := (am_up_ne (show 1208 ≠ 1000 from by decide)).trans ((am_up_ne (show 1208 ≠ 1001 from by decide)).trans (b1208))
        refine v_callV (rest := [.ref 1000]) (As := []) (mc' := 0) (ms' := 0) (am_Dk d_VR_let (k := 16) rfl) c_VR_84 (Or.inl ⟨_, _, _, _, _, m16, cq_ok8⟩) (t_Op_isNamedVariable G (d := 0) (by omega) m16) (by omega) (by omega) (by omega) (by simp [Value.category]) rfl (fun v17 M18 n19 h20 => ?_) (fun _ _ _ h20 => ?_)
        rotate_left
        · exact absurd h20.1 (by simp)
        obtain ⟨h20, e21, e22⟩ := h20
        replace e21 := e21.symm
        replace e22 := e22.symm
        subst e21
        subst e22
        cases h20
        show am_V G _ _ _ _ _ 37 [(1, .ref 1208), (0, .ref 1000)] [.int (bi (decide (xl0 < xl1))), .ref 1000] (am_up (am_up M2 1001 (.inr (1, [.ref 1002, .int 0]))) 1000 (.inr (0, [.ref 1001, .ref 1003, .ref 1005, .int (-1), .int 0]))) nx 1 6
        refine v_if_eq (tgt := 44) (am_Dk d_VR_let (k := 17) rfl) (by decide) (fun c23 => ?_) (fun c23 => ?_)
        · have hND := bi0.mp c23
          have hno : ¬ (xou = 10 ∧ xl0 < xl1) := fun z => of_decide_eq_false hND z.2
          refine v_iconst (v := 0) (am_Dk d_VR_let (k := 20) rfl) (by decide) ?_
          refine v_callV (rest := []) (As := [.int 0]) (mc' := 1) (ms' := 6) (am_Dk d_VR_let (k := 21) rfl) c_VR_88 (Or.inl ⟨_, _, _, _, _, m9, cq_ok0⟩) (t_VR_refuseSomethingElse G (d := 6) (b := false) (by omega) m9 (by omega)) (by omega) (by omega) (by omega) (by simp [Value.category]) rfl (fun v24 M25 n26 h27 => ?_) (fun v24 M25 n26 h27 => ?_)
          · rcases h27 with ⟨hs, h27, e1, e2⟩ | ⟨hs, h27, e1, e2⟩
            · exact absurd hs (by decide)
            · cases h27
          · rcases h27 with ⟨hs, h27, e1, e2⟩ | ⟨hs, h27, e1, e2⟩
            · cases h27
            · cases h27
              replace e1 := e1.symm
              replace e2 := e2.symm
              subst e1
              subst e2
              rw [am_uu0 (a := 1000)]
              exact vt_leave (fun q hq => by cases hq) (by omega) (by omega) ⟨by omega, by omega, (fun i hi => (am_up_ne (show i ≠ nx from by omega)).trans ((am_up_ne (show i ≠ 1000 from by omega)).trans ((am_up_ne (show i ≠ 1001 from by omega)).trans ((hfr i (by omega)))))), (am_up_ne (show 1001 ≠ nx from by omega)).trans ((am_up_ne (show 1001 ≠ 1000 from by decide)).trans (am_up_eq _ _ _)), cs0_fr hc0 (fun i q1 q2 => (am_up_ne (show i ≠ nx from by omega)).trans ((am_up_ne (show i ≠ 1000 from by omega)).trans ((am_up_ne (show i ≠ 1001 from by omega)).trans (rfl)))), Or.inr ⟨rfl, Or.inl ⟨hno, ⟨_, rfl, am_up_eq _ _ _⟩, (am_up_ne (show 1000 ≠ nx from by omega)).trans (am_up_eq _ _ _), vz_fr hvz0 (by omega) ((am_up_ne (show 1003 ≠ nx from by omega)).trans ((am_up_ne (show 1003 ≠ 1000 from by omega)).trans ((am_up_ne (show 1003 ≠ 1001 from by omega)).trans ((hfr 1003 (by omega)))))) ((am_up_ne (show 1004 ≠ nx from by omega)).trans ((am_up_ne (show 1004 ≠ 1000 from by omega)).trans ((am_up_ne (show 1004 ≠ 1001 from by omega)).trans ((hfr 1004 (by omega)))))) (fun i q1 q2 => (am_up_ne (show i ≠ nx from by omega)).trans ((am_up_ne (show i ≠ 1000 from by omega)).trans ((am_up_ne (show i ≠ 1001 from by omega)).trans ((hfr i (by omega))))))⟩⟩⟩
        · have hND := of_decide_eq_true (bi1 c23)
          have hyes : xou = 10 ∧ xl0 < xl1 := ⟨hQ, hND⟩
          refine v_iconst (v := 1) (am_Dk d_VR_let (k := 18) rfl) (by decide) ?_
          refine v_goto (tgt := 45) (am_Dk d_VR_let (k := 19) rfl) (by decide) ?_
          refine v_callV (rest := []) (As := [.int 1]) (mc' := 1) (ms' := 6) (am_Dk d_VR_let (k := 21) rfl) c_VR_88 (Or.inl ⟨_, _, _, _, _, m9, cq_ok0⟩) (t_VR_refuseSomethingElse G (d := 6) (b := true) (by omega) m9 (by omega)) (by omega) (by omega) (by omega) (by simp [Value.category]) rfl (fun v28 M29 n30 h31 => ?_) (fun v28 M29 n30 h31 => ?_)
          · rcases h31 with ⟨hs, h31, e1, e2⟩ | ⟨hs, h31, e1, e2⟩
            · cases h31
              replace e1 := e1.symm
              replace e2 := e2.symm
              subst e1
              subst e2
              show am_V G _ _ _ _ _ 48 [(1, .ref 1208), (0, .ref 1000)] [] (am_up (am_up M2 1001 (.inr (1, [.ref 1002, .int 0]))) 1000 (.inr (0, [.ref 1001, .ref 1003, .ref 1005, .int (-1), .int 0]))) nx 2 12
              refine v_aload_n (am_Dk d_VR_let (k := 22) rfl) rfl ?_
              refine v_aload_n (am_Dk d_VR_let (k := 23) rfl) rfl ?_
              refine v_get (am_Dk d_VR_let (k := 24) rfl) f_VR_28 m9 rfl ?_
              refine v_get9 (am_Dk d_VR_let (k := 25) rfl) r_VR_92 m10 rfl ?_
              have m32 : (am_up (am_up M2 1001 (.inr (1, [.ref 1002, .int 0]))) 1000 (.inr (0, [.ref 1001, .ref 1003, .ref 1005, .int (-1), .int 0]))) 1209 = some (.inr (8, [.int xre, .long xrv, .int xr0, .int xr1])) := (am_up_ne (show 1209 ≠ 1000 from by decide)).trans ((am_up_ne (show 1209 ≠ 1001 from by decide)).trans (b1209))
              refine v_get (am_Dk d_VR_let (k := 26) rfl) f_VR_62 m32 rfl ?_
              refine v_callV (rest := []) (As := [.int xre]) (mc' := 1) (ms' := 6) (am_Dk d_VR_let (k := 27) rfl) c_VR_65 (Or.inl ⟨_, _, _, _, _, m9, cq_ok0⟩) (t_VR_refuseError G (d := 6) (by omega) m9 (by omega)) (by omega) (by omega) (by omega) (by simp [Value.category]) rfl (fun v33 M34 n35 h36 => ?_) (fun v33 M34 n35 h36 => ?_)
              · rcases h36 with ⟨he1, h36, e1, e2⟩ | ⟨he1, h36, e1, e2⟩
                · cases h36
                  replace e1 := e1.symm
                  replace e2 := e2.symm
                  subst e1
                  subst e2
                  show am_V G _ _ _ _ _ 62 [(1, .ref 1208), (0, .ref 1000)] [] (am_up (am_up M2 1001 (.inr (1, [.ref 1002, .int 0]))) 1000 (.inr (0, [.ref 1001, .ref 1003, .ref 1005, .int (-1), .int 0]))) nx 3 18
                  have hR2 := hR
                  rw [hQ] at hR2
                  have hU : nU f n (xle, xlv, xl0, xl1) := nV_let hn hR2
                  obtain ⟨p, e, hp0, hp1, hpe, hen, hun⟩ := hU hND
                  replace hp0 : xl0 = nI p := hp0
                  replace hp1 : xl1 = nI e := hp1
                  subst hp0
                  subst hp1
                  show am_V G _ _ _ _ _ 62 [(1, .ref 1208), (0, .ref 1000)] [] (am_up (am_up M2 1001 (.inr (1, [.ref 1002, .int 0]))) 1000 (.inr (0, [.ref 1001, .ref 1003, .ref 1005, .int (-1), .int 0]))) nx 3 18
                  refine v_aload_n (am_Dk d_VR_let (k := 28) rfl) rfl ?_
                  refine v_get (am_Dk d_VR_let (k := 29) rfl) f_VR_19 m9 rfl ?_
                  refine v_aload_n (am_Dk d_VR_let (k := 30) rfl) rfl ?_
                  refine v_get (am_Dk d_VR_let (k := 31) rfl) f_VR_10 m9 rfl ?_
                  have m37 : (am_up (am_up M2 1001 (.inr (1, [.ref 1002, .int 0]))) 1000 (.inr (0, [.ref 1001, .ref 1003, .ref 1005, .int (-1), .int 0]))) 1001 = some (.inr (1, [.ref 1002, .int 0])) := (am_up_ne (show 1001 ≠ 1000 from by decide)).trans (am_up_eq _ _ _)
                  refine v_get9 (am_Dk d_VR_let (k := 32) rfl) r_VR_95 m37 rfl ?_
                  refine v_aload_n (am_Dk d_VR_let (k := 33) rfl) rfl ?_
                  refine v_get (am_Dk d_VR_let (k := 34) rfl) f_VR_99 m16 rfl ?_
                  refine v_aload_n (am_Dk d_VR_let (k := 35) rfl) rfl ?_
                  refine v_get (am_Dk d_VR_let (k := 36) rfl) f_VR_102 m16 rfl ?_
                  have m38 : (am_up (am_up M2 1001 (.inr (1, [.ref 1002, .int 0]))) 1000 (.inr (0, [.ref 1001, .ref 1003, .ref 1005, .int (-1), .int 0]))) 1003 = some (.inr (2, [.ref 1004])) := (am_up_ne (show 1003 ≠ 1000 from by decide)).trans ((am_up_ne (show 1003 ≠ 1001 from by decide)).trans (b1003))
                  refine v_callV (rest := []) (As := [.ref 1002, .int (nI p), .int (nI e)]) (mc' := 0) (ms' := 0) (am_Dk d_VR_let (k := 37) rfl) c_VR_105 (Or.inl ⟨_, _, _, _, _, m38, cq_ok2⟩) (t_Vars_find G (d := 3) (by omega) (vs_fr hV ((am_up_ne (show 1003 ≠ 1000 from by omega)).trans ((am_up_ne (show 1003 ≠ 1001 from by omega)).trans ((hfr 1003 (by omega))))) ((am_up_ne (show 1004 ≠ 1000 from by omega)).trans ((am_up_ne (show 1004 ≠ 1001 from by omega)).trans ((hfr 1004 (by omega))))) (fun i q1 => (am_up_ne (show i ≠ 1000 from by omega)).trans ((am_up_ne (show i ≠ 1001 from by omega)).trans ((hfr i (by omega)))))) ((am_up_ne (show 1002 ≠ 1000 from by decide)).trans ((am_up_ne (show 1002 ≠ 1001 from by decide)).trans (b1002))) (by omega) (by omega)) (by omega) (by omega) (by omega) (by simp [Value.category]) rfl (fun v39 M40 n41 h42 => ?_) (fun _ _ _ h42 => ?_)
                  rotate_left
                  · exact absurd h42.1 (by simp)
                  obtain ⟨h42, e8, e9x⟩ := h42
                  replace e8 := e8.symm
                  replace e9x := e9x.symm
                  subst e8
                  subst e9x
                  cases h42
                  rcases hvf : vfF (vmt Vl Vg (e - p) (fun j => f (p + j))) c 0 with _ | i0
                  · show am_V G _ _ _ _ _ 84 [(1, .ref 1208), (0, .ref 1000)] [.null] (am_up (am_up M2 1001 (.inr (1, [.ref 1002, .int 0]))) 1000 (.inr (0, [.ref 1001, .ref 1003, .ref 1005, .int (-1), .int 0]))) nx 3 18
                    refine v_astore_nN (L1 := [(2, .null), (1, .ref 1208), (0, .ref 1000)]) (am_Dk d_VR_let (k := 38) rfl) (by decide) rfl ?_
                    refine v_aload_nN (am_Dk d_VR_let (k := 39) rfl) rfl ?_
                    refine v_ifnullN (tgt := 106) (am_Dk d_VR_let (k := 40) rfl) (by decide) ?_
                    refine v_aload_n (am_Dk d_VR_let (k := 48) rfl) rfl ?_
                    refine v_get (am_Dk d_VR_let (k := 49) rfl) f_VR_19 m9 rfl ?_
                    have m43 : (am_up (am_up M2 1001 (.inr (1, [.ref 1002, .int 0]))) 1000 (.inr (0, [.ref 1001, .ref 1003, .ref 1005, .int (-1), .int 0]))) 1004 = some (.inr (3, [.int mcn, .ref ed, .int (nI c)])) := (am_up_ne (show 1004 ≠ 1000 from by decide)).trans ((am_up_ne (show 1004 ≠ 1001 from by decide)).trans (b1004))
                    refine v_callV (rest := []) (As := []) (mc' := 0) (ms' := 0) (am_Dk d_VR_let (k := 50) rfl) c_VR_112 (Or.inl ⟨_, _, _, _, _, m38, cq_ok2⟩) (t_Vars_isFull G (d := 1) (by omega) m38 m43 hc5) (by omega) (by omega) (by omega) (by simp [Value.category]) rfl (fun v44 M45 n46 h47 => ?_) (fun _ _ _ h47 => ?_)
                    rotate_left
                    · exact absurd h47.1 (by simp)
                    obtain ⟨h47, e48, e49⟩ := h47
                    replace e48 := e48.symm
                    replace e49 := e49.symm
                    subst e48
                    subst e49
                    cases h47
                    show am_V G _ _ _ _ _ 113 [(2, .null), (1, .ref 1208), (0, .ref 1000)] [.int (bi (decide (c = 50)))] (am_up (am_up M2 1001 (.inr (1, [.ref 1002, .int 0]))) 1000 (.inr (0, [.ref 1001, .ref 1003, .ref 1005, .int (-1), .int 0]))) nx 3 18
                    refine v_if_eq (tgt := 124) (am_Dk d_VR_let (k := 51) rfl) (by decide) (fun c50 => ?_) (fun c50 => ?_)
                    · have hcF := of_decide_eq_false (bi0.mp c50)
                      refine v_aload_n (am_Dk d_VR_let (k := 56) rfl) rfl ?_
                      refine v_get (am_Dk d_VR_let (k := 57) rfl) f_VR_19 m9 rfl ?_
                      refine v_aload_n (am_Dk d_VR_let (k := 58) rfl) rfl ?_
                      refine v_get (am_Dk d_VR_let (k := 59) rfl) f_VR_10 m9 rfl ?_
                      refine v_get9 (am_Dk d_VR_let (k := 60) rfl) r_VR_95 m37 rfl ?_
                      refine v_aload_n (am_Dk d_VR_let (k := 61) rfl) rfl ?_
                      refine v_get (am_Dk d_VR_let (k := 62) rfl) f_VR_99 m16 rfl ?_
                      refine v_aload_n (am_Dk d_VR_let (k := 63) rfl) rfl ?_
                      refine v_get (am_Dk d_VR_let (k := 64) rfl) f_VR_102 m16 rfl ?_
                      refine v_aload_n (am_Dk d_VR_let (k := 65) rfl) rfl ?_
                      refine v_get (am_Dk d_VR_let (k := 66) rfl) f_VR_28 m9 rfl ?_
                      refine v_get9 (am_Dk d_VR_let (k := 67) rfl) r_VR_92 m10 rfl ?_
                      refine v_get (am_Dk d_VR_let (k := 68) rfl) f_VR_68 m32 rfl ?_
                      refine v_callV (rest := []) (As := [.ref 1002, .int (nI p), .int (nI e), .long xrv]) (mc' := 3) (ms' := 4173) (am_Dk d_VR_let (k := 69) rfl) c_VR_115 (Or.inl ⟨_, _, _, _, _, m38, cq_ok2⟩) (t_Vars_add G (d := 7) (by omega) (vs_fr hV ((am_up_ne (show 1003 ≠ 1000 from by omega)).trans ((am_up_ne (show 1003 ≠ 1001 from by omega)).trans ((hfr 1003 (by omega))))) ((am_up_ne (show 1004 ≠ 1000 from by omega)).trans ((am_up_ne (show 1004 ≠ 1001 from by omega)).trans ((hfr 1004 (by omega))))) (fun i q1 => (am_up_ne (show i ≠ 1000 from by omega)).trans ((am_up_ne (show i ≠ 1001 from by omega)).trans ((hfr i (by omega)))))) (vw_fr hw (Nat.le_refl _) (fun i q1 q2 => (am_up_ne (show i ≠ 1000 from by omega)).trans ((am_up_ne (show i ≠ 1001 from by omega)).trans ((hfr i (by omega)))))) hx hb ((am_up_ne (show 1002 ≠ 1000 from by decide)).trans ((am_up_ne (show 1002 ≠ 1001 from by decide)).trans (b1002))) hpe (by omega) (by omega)) (by omega) (by omega) (by omega) (by simp [Value.category]) rfl (fun v51 M52 n53 h54 => ?_) (fun _ _ _ h54 => ?_)
                      rotate_left
                      · exact absurd h54.1 (by simp)
                      obtain ⟨h54, y1, y2, y3, y4⟩ := h54
                      cases h54
                      obtain ⟨Vi2, Vb2, ed2, cap2, R2, mcn2, hV2, hw2⟩ := id y4
                      have b3x : M52 1003 = some (.inr (2, [.ref 1004])) := hV2.1
                      have b4x : M52 1004 = some (.inr (3, [.int mcn2, .ref ed2, .int (nI (c + 1))])) := hV2.2.1
                      have b0x : M52 1000 = some (.inr (0, [.ref 1001, .ref 1003, .ref 1005, .int (-1), .int 0])) := (y3 1000 (by omega) (by omega) (by omega)).trans (am_up_eq _ _ _)
                      show am_V G _ _ _ _ _ 156 [(2, .null), (1, .ref 1208), (0, .ref 1000)] [] M52 n53 6 4191
                      refine v_aload_n (am_Dk d_VR_let (k := 70) rfl) rfl ?_
                      refine v_get (am_Dk d_VR_let (k := 71) rfl) f_VR_19 b0x rfl ?_
                      refine v_get9 (am_Dk d_VR_let (k := 72) rfl) r_VR_119 b3x rfl ?_
                      refine v_callV (rest := []) (As := []) (mc' := 0) (ms' := 0) (am_Dk d_VR_let (k := 73) rfl) c_VR_123 (Or.inl ⟨_, _, _, _, _, b4x, cq_ok3⟩) (t_jA_size G (d := 0) (by omega) b4x) (by omega) (by omega) (by omega) (by simp [Value.category]) rfl (fun v55 M56 n57 h58 => ?_) (fun _ _ _ h58 => ?_)
                      rotate_left
                      · exact absurd h58.1 (by simp)
                      obtain ⟨h58, e59, e60⟩ := h58
                      replace e59 := e59.symm
                      replace e60 := e60.symm
                      subst e59
                      subst e60
                      cases h58
                      show am_V G _ _ _ _ _ 166 [(2, .null), (1, .ref 1208), (0, .ref 1000)] [.int (nI (c + 1))] M52 n53 6 4191
                      exact v_ireturn (am_Dk d_VR_let (k := 74) rfl) rfl rfl (by omega) (by omega) ⟨by omega, by omega, (fun i hi => (y3 i (by omega) (by omega) (by omega)).trans ((am_up_ne (show i ≠ 1000 from by omega)).trans ((am_up_ne (show i ≠ 1001 from by omega)).trans ((hfr i (by omega)))))), (y3 1001 (by omega) (by omega) (by omega)).trans ((am_up_ne (show 1001 ≠ 1000 from by decide)).trans (am_up_eq _ _ _)), cs0_fr hc0 (fun i q1 q2 => (y3 i (by omega) (by omega) (by omega)).trans ((am_up_ne (show i ≠ 1000 from by omega)).trans ((am_up_ne (show i ≠ 1001 from by omega)).trans (rfl)))), Or.inr ⟨rfl, Or.inr ⟨hyes, Or.inr ⟨he1, (y3 1000 (by omega) (by omega) (by omega)).trans (am_up_eq _ _ _), p, e, rfl, rfl, hpe, hen, hun, Or.inr (Or.inr ⟨hvf, by omega, rfl, y4⟩)⟩⟩⟩⟩
                    · have hcF := of_decide_eq_true (bi1 c50)
                      refine v_newX (am_Dk d_VR_let (k := 52) rfl) (am_Dk d_VR_let (k := 53) rfl) (am_Dk d_VR_let (k := 54) rfl) x_VR_42 (by omega) (by omega) (by omega) (by simp [Value.category]) ?_
                      refine v_athrow (am_Dk d_VR_let (k := 55) rfl) ?_
                      exact vt_leave (fun q hq => by cases hq) (by omega) (by omega) ⟨by omega, by omega, (fun i hi => (am_up_ne (show i ≠ nx from by omega)).trans ((am_up_ne (show i ≠ 1000 from by omega)).trans ((am_up_ne (show i ≠ 1001 from by omega)).trans ((hfr i (by omega)))))), (am_up_ne (show 1001 ≠ nx from by omega)).trans ((am_up_ne (show 1001 ≠ 1000 from by decide)).trans (am_up_eq _ _ _)), cs0_fr hc0 (fun i q1 q2 => (am_up_ne (show i ≠ nx from by omega)).trans ((am_up_ne (show i ≠ 1000 from by omega)).trans ((am_up_ne (show i ≠ 1001 from by omega)).trans (rfl)))), Or.inr ⟨rfl, Or.inr ⟨hyes, Or.inr ⟨he1, (am_up_ne (show 1000 ≠ nx from by omega)).trans (am_up_eq _ _ _), p, e, rfl, rfl, hpe, hen, hun, Or.inr (Or.inl ⟨hvf, hcF, ⟨_, rfl, am_up_eq _ _ _⟩, vz_fr hvz0 (by omega) ((am_up_ne (show 1003 ≠ nx from by omega)).trans ((am_up_ne (show 1003 ≠ 1000 from by omega)).trans ((am_up_ne (show 1003 ≠ 1001 from by omega)).trans ((hfr 1003 (by omega)))))) ((am_up_ne (show 1004 ≠ nx from by omega)).trans ((am_up_ne (show 1004 ≠ 1000 from by omega)).trans ((am_up_ne (show 1004 ≠ 1001 from by omega)).trans ((hfr 1004 (by omega)))))) (fun i q1 q2 => (am_up_ne (show i ≠ nx from by omega)).trans ((am_up_ne (show i ≠ 1000 from by omega)).trans ((am_up_ne (show i ≠ 1001 from by omega)).trans ((hfr i (by omega))))))⟩)⟩⟩⟩⟩
                  · have hi0 := vf_lt hvf
                    have hvi0 := hV.2.2.2.2.2.2 i0 hi0
                    have hvi1 := hvi0.2.2.2.1
                    have hvi2 := (hw.2.1 i0 hi0).1
                    have hvic : (am_up (am_up M2 1001 (.inr (1, [.ref 1002, .int 0]))) 1000 (.inr (0, [.ref 1001, .ref 1003, .ref 1005, .int (-1), .int 0]))) (Vi i0) = some (.inr (4, [.ref (Vb i0), .long (Vn i0)])) := ((am_up_ne (show (Vi i0) ≠ 1000 from by omega)).trans ((am_up_ne (show (Vi i0) ≠ 1001 from by omega)).trans ((hfr (Vi i0) (by omega))))).trans hvi0.1
                    show am_V G _ _ _ _ _ 84 [(1, .ref 1208), (0, .ref 1000)] [.ref (Vi i0)] (am_up (am_up M2 1001 (.inr (1, [.ref 1002, .int 0]))) 1000 (.inr (0, [.ref 1001, .ref 1003, .ref 1005, .int (-1), .int 0]))) nx 3 18
                    refine v_astore_n (L1 := [(2, .ref (Vi i0)), (1, .ref 1208), (0, .ref 1000)]) (am_Dk d_VR_let (k := 38) rfl) (by decide) rfl ?_
                    refine v_aload_n (am_Dk d_VR_let (k := 39) rfl) rfl ?_
                    refine v_ifnull (am_Dk d_VR_let (k := 40) rfl) ?_
                    refine v_aload_n (am_Dk d_VR_let (k := 41) rfl) rfl ?_
                    refine v_aload_n (am_Dk d_VR_let (k := 42) rfl) rfl ?_
                    refine v_get (am_Dk d_VR_let (k := 43) rfl) f_VR_28 m9 rfl ?_
                    refine v_get9 (am_Dk d_VR_let (k := 44) rfl) r_VR_92 m10 rfl ?_
                    refine v_get (am_Dk d_VR_let (k := 45) rfl) f_VR_68 m32 rfl ?_
                    refine v_put (am_Dk d_VR_let (k := 46) rfl) f_VR_109 hvic (Nat.le_of_ble_eq_true rfl) rfl rfl ?_
                    refine v_goto (tgt := 156) (am_Dk d_VR_let (k := 47) rfl) (by decide) ?_
                    refine v_aload_n (am_Dk d_VR_let (k := 70) rfl) rfl ?_
                    have m61 : (am_up (am_up (am_up M2 1001 (.inr (1, [.ref 1002, .int 0]))) 1000 (.inr (0, [.ref 1001, .ref 1003, .ref 1005, .int (-1), .int 0]))) (Vi i0) (.inr (4, [.ref (Vb i0), .long xrv]))) 1000 = some (.inr (0, [.ref 1001, .ref 1003, .ref 1005, .int (-1), .int 0])) := (am_up_ne (show 1000 ≠ (Vi i0) from by omega)).trans (am_up_eq _ _ _)
                    refine v_get (am_Dk d_VR_let (k := 71) rfl) f_VR_19 m61 rfl ?_
                    have m62 : (am_up (am_up (am_up M2 1001 (.inr (1, [.ref 1002, .int 0]))) 1000 (.inr (0, [.ref 1001, .ref 1003, .ref 1005, .int (-1), .int 0]))) (Vi i0) (.inr (4, [.ref (Vb i0), .long xrv]))) 1003 = some (.inr (2, [.ref 1004])) := (am_up_ne (show 1003 ≠ (Vi i0) from by omega)).trans ((am_up_ne (show 1003 ≠ 1000 from by decide)).trans ((am_up_ne (show 1003 ≠ 1001 from by decide)).trans (b1003)))
                    refine v_get9 (am_Dk d_VR_let (k := 72) rfl) r_VR_119 m62 rfl ?_
                    have m63 : (am_up (am_up (am_up M2 1001 (.inr (1, [.ref 1002, .int 0]))) 1000 (.inr (0, [.ref 1001, .ref 1003, .ref 1005, .int (-1), .int 0]))) (Vi i0) (.inr (4, [.ref (Vb i0), .long xrv]))) 1004 = some (.inr (3, [.int mcn, .ref ed, .int (nI c)])) := (am_up_ne (show 1004 ≠ (Vi i0) from by omega)).trans ((am_up_ne (show 1004 ≠ 1000 from by decide)).trans ((am_up_ne (show 1004 ≠ 1001 from by decide)).trans (b1004)))
                    refine v_callV (rest := []) (As := []) (mc' := 0) (ms' := 0) (am_Dk d_VR_let (k := 73) rfl) c_VR_123 (Or.inl ⟨_, _, _, _, _, m63, cq_ok3⟩) (t_jA_size G (d := 0) (by omega) m63) (by omega) (by omega) (by omega) (by simp [Value.category]) rfl (fun v64 M65 n66 h67 => ?_) (fun _ _ _ h67 => ?_)
                    rotate_left
                    · exact absurd h67.1 (by simp)
                    obtain ⟨h67, e68, e69⟩ := h67
                    replace e68 := e68.symm
                    replace e69 := e69.symm
                    subst e68
                    subst e69
                    cases h67
                    show am_V G _ _ _ _ _ 166 [(2, .ref (Vi i0)), (1, .ref 1208), (0, .ref 1000)] [.int (nI c)] (am_up (am_up (am_up M2 1001 (.inr (1, [.ref 1002, .int 0]))) 1000 (.inr (0, [.ref 1001, .ref 1003, .ref 1005, .int (-1), .int 0]))) (Vi i0) (.inr (4, [.ref (Vb i0), .long xrv]))) nx 3 18
                    exact v_ireturn (am_Dk d_VR_let (k := 74) rfl) rfl rfl (by omega) (by omega) ⟨by omega, by omega, (fun i hi => (am_up_ne (show i ≠ (Vi i0) from by omega)).trans ((am_up_ne (show i ≠ 1000 from by omega)).trans ((am_up_ne (show i ≠ 1001 from by omega)).trans ((hfr i (by omega)))))), (am_up_ne (show 1001 ≠ (Vi i0) from by omega)).trans ((am_up_ne (show 1001 ≠ 1000 from by decide)).trans (am_up_eq _ _ _)), cs0_fr hc0 (fun i q1 q2 => (am_up_ne (show i ≠ (Vi i0) from by omega)).trans ((am_up_ne (show i ≠ 1000 from by omega)).trans ((am_up_ne (show i ≠ 1001 from by omega)).trans (rfl)))), Or.inr ⟨rfl, Or.inr ⟨hyes, Or.inr ⟨he1, (am_up_ne (show 1000 ≠ (Vi i0) from by omega)).trans (am_up_eq _ _ _), p, e, rfl, rfl, hpe, hen, hun, Or.inl ⟨i0, hvf, rfl, vz_set hV hw hi0 ((am_up_ne (show 1003 ≠ (Vi i0) from by omega)).trans ((am_up_ne (show 1003 ≠ 1000 from by omega)).trans ((am_up_ne (show 1003 ≠ 1001 from by omega)).trans ((hfr 1003 (by omega)))))) ((am_up_ne (show 1004 ≠ (Vi i0) from by omega)).trans ((am_up_ne (show 1004 ≠ 1000 from by omega)).trans ((am_up_ne (show 1004 ≠ 1001 from by omega)).trans ((hfr 1004 (by omega)))))) (fun i q1 q2 q3 => (am_up_ne (show i ≠ (Vi i0) from by omega)).trans ((am_up_ne (show i ≠ 1000 from by omega)).trans ((am_up_ne (show i ≠ 1001 from by omega)).trans ((hfr i (by omega)))))) (am_up_eq _ _ _)⟩⟩⟩⟩⟩
                · cases h36
              · rcases h36 with ⟨he1, h36, e1, e2⟩ | ⟨he1, h36, e1, e2⟩
                · cases h36
                · cases h36
                  replace e1 := e1.symm
                  replace e2 := e2.symm
                  subst e1
                  subst e2
                  rw [am_uu0 (a := 1000)]
                  exact vt_leave (fun q hq => by cases hq) (by omega) (by omega) ⟨by omega, by omega, (fun i hi => (am_up_ne (show i ≠ nx from by omega)).trans ((am_up_ne (show i ≠ 1000 from by omega)).trans ((am_up_ne (show i ≠ 1001 from by omega)).trans ((hfr i (by omega)))))), (am_up_ne (show 1001 ≠ nx from by omega)).trans ((am_up_ne (show 1001 ≠ 1000 from by decide)).trans (am_up_eq _ _ _)), cs0_fr hc0 (fun i q1 q2 => (am_up_ne (show i ≠ nx from by omega)).trans ((am_up_ne (show i ≠ 1000 from by omega)).trans ((am_up_ne (show i ≠ 1001 from by omega)).trans (rfl)))), Or.inr ⟨rfl, Or.inr ⟨hyes, Or.inl ⟨he1, ⟨_, rfl, am_up_eq _ _ _⟩, (am_up_ne (show 1000 ≠ nx from by omega)).trans (am_up_eq _ _ _), vz_fr hvz0 (by omega) ((am_up_ne (show 1003 ≠ nx from by omega)).trans ((am_up_ne (show 1003 ≠ 1000 from by omega)).trans ((am_up_ne (show 1003 ≠ 1001 from by omega)).trans ((hfr 1003 (by omega)))))) ((am_up_ne (show 1004 ≠ nx from by omega)).trans ((am_up_ne (show 1004 ≠ 1000 from by omega)).trans ((am_up_ne (show 1004 ≠ 1001 from by omega)).trans ((hfr 1004 (by omega)))))) (fun i q1 q2 => (am_up_ne (show i ≠ nx from by omega)).trans ((am_up_ne (show i ≠ 1000 from by omega)).trans ((am_up_ne (show i ≠ 1001 from by omega)).trans ((hfr i (by omega))))))⟩⟩⟩⟩
            · cases h31
          · rcases h31 with ⟨hs, h31, e1, e2⟩ | ⟨hs, h31, e1, e2⟩
            · cases h31
            · exact absurd hs (by decide)
    · cases h8
  · rcases h8 with ⟨hp, h8, e1, e2⟩ | ⟨hp, h8, e1, e2⟩
    · cases h8
    · cases h8
      replace e1 := e1.symm
      replace e2 := e2.symm
      subst e1
      subst e2
      exact vt_leave (fun q hq => by cases hq) (by omega) (by omega) ⟨by omega, by omega, (fun i hi => (am_up_ne (show i ≠ nx from by omega)).trans ((am_up_ne (show i ≠ 1000 from by omega)).trans ((am_up_ne (show i ≠ 1001 from by omega)).trans ((hfr i (by omega)))))), (am_up_ne (show 1001 ≠ nx from by omega)).trans ((am_up_ne (show 1001 ≠ 1000 from by decide)).trans (am_up_eq _ _ _)), cs0_fr hc0 (fun i q1 q2 => (am_up_ne (show i ≠ nx from by omega)).trans ((am_up_ne (show i ≠ 1000 from by omega)).trans ((am_up_ne (show i ≠ 1001 from by omega)).trans (rfl)))), Or.inl ⟨hp, ⟨_, rfl, am_up_eq _ _ _⟩, (am_up_ne (show 1000 ≠ nx from by omega)).trans (am_up_eq _ _ _), vz_fr hvz0 (by omega) ((am_up_ne (show 1003 ≠ nx from by omega)).trans ((am_up_ne (show 1003 ≠ 1000 from by omega)).trans ((am_up_ne (show 1003 ≠ 1001 from by omega)).trans ((hfr 1003 (by omega)))))) ((am_up_ne (show 1004 ≠ nx from by omega)).trans ((am_up_ne (show 1004 ≠ 1000 from by omega)).trans ((am_up_ne (show 1004 ≠ 1001 from by omega)).trans ((hfr 1004 (by omega)))))) (fun i q1 q2 => (am_up_ne (show i ≠ nx from by omega)).trans ((am_up_ne (show i ≠ 1000 from by omega)).trans ((am_up_ne (show i ≠ 1001 from by omega)).trans ((hfr i (by omega))))))⟩⟩
