/-! THE CLASS'S READER: ITS STEPS AND ITS LOOP (mine; rows laid by the walker) -/
theorem kd_o : ∀ k, k < 12 → (26 + k, "ValueReckoner$Kind") ∈ am_ko := by decide +kernel
theorem vf_lt' {p : Nat → Bool} : ∀ {m i j : Nat}, vfF p m i = some j → i ≤ j ∧ j < i + m ∧ p j = true
  | 0, _, _, h => by cases h
  | m + 1, i, j, h => by
    rw [vfF] at h
    split at h
    · cases h
      exact ⟨Nat.le_refl _, by omega, by assumption⟩
    · have := vf_lt' h
      exact ⟨by omega, by omega, this.2.2⟩
theorem vf_lt {p : Nat → Bool} {m j : Nat} (h : vfF p m 0 = some j) : j < m := by have := vf_lt' h; omega
def swK (k : Nat) : Int32 := [1, 2, 5, 3, 6, 4, 7, 8, 9, 10, 0, 0].getD k 0
theorem swK_at : ∀ k, k < 12 → [Value.int 1, Value.int 2, Value.int 5, Value.int 3, Value.int 6, Value.int 4, Value.int 7, Value.int 8, Value.int 9, Value.int 10, Value.int 0, Value.int 0].getD k Value.null = .int (swK k) := by decide +kernel
theorem swK_o1x : ∀ k, k < 12 → (k = 0 ∨ k = 1 ∨ k = 3 ∨ k = 5) ∨ ((swK k).toInt < 1 ∨ 4 < (swK k).toInt) := by decide +kernel
theorem swK_o1 (k : Nat) (h : k < 12) (a : ¬ k = 0) (b : ¬ k = 1) (c : ¬ k = 3) (d : ¬ k = 5) : (swK k).toInt < 1 ∨ 4 < (swK k).toInt := (swK_o1x k h).resolve_left (by omega)
theorem swK_o2x : ∀ k, k < 12 → (k = 2 ∨ k = 4 ∨ k = 6 ∨ k = 7 ∨ k = 8 ∨ k = 9) ∨ ((swK k).toInt < 5 ∨ 10 < (swK k).toInt) := by decide +kernel
theorem swK_o2 (k : Nat) (h : k < 12) (a : ¬ k = 2) (b : ¬ k = 4) (c : ¬ k = 6) (d : ¬ k = 7) (e : ¬ k = 8) (f : ¬ k = 9) : (swK k).toInt < 5 ∨ 10 < (swK k).toInt := (swK_o2x k h).resolve_left (by omega)
set_option maxRecDepth 20000 in
theorem t_Rd_readVariable (G : am_G) {d nx : Nat} (hd : 7 ≤ d) {M : am_M} {f : Nat → Int32} {n : Nat} (h1 : M 1001 = some (.inr (1, [.ref 1002, .int (nI n)]))) (h2 : M 1002 = some (.inl (0, 4096, .inl f))) (hn : n ≤ 4096) {K : List Frm} {ro nm ar sy ou a : Nat} {mo pr fa fb fe l0 l1 le r0 r1 re a0 b0 e : Int32} {fv lv rv v : Int64} (hl : K.length < 100) (hnm : nm < 26) (ha : a ≤ n) {c ed cap : Nat} {Vi Vb Vl : Nat → Nat} {Vg : Nat → Nat → Int32} {Vn : Nat → Int64} {R : Nat → Option Nat} {mcn : Int32} (hV : vs M c Vi Vb Vl Vg Vn ed cap R mcn) (hcs : cs f n M ((ro, nm, mo, ar, (fe, fv, fa, fb)) :: K, true, false, sy, -1, ou, pr, a, (le, lv, l0, l1), (re, rv, r0, r1), (e, v, a0, b0))) : am_Tr G m_Rd_readVariable d 0 0 [.ref 1005] M nx (fun r M1 nx1 => r = .inl none ∧ nx1 = nx ∧ cs f n M1 (c_var f n (cl_lu c Vl Vg Vn f) ((ro, nm, mo, ar, (fe, fv, fa, fb)) :: K, true, false, sy, -1, ou, pr, a, (le, lv, l0, l1), (re, rv, r0, r1), (e, v, a0, b0))) ∧ cs_fr M M1) := by
  refine am_TrOf (by decide) (Nat.le_of_ble_eq_true rfl) ?_
  show am_V G _ _ _ _ _ 0 [(0, .ref 1005)] [] M nx 0 0
  obtain ⟨h5, ⟨nu, nf, nt, h6, hnu⟩, h7, qT, ⟨⟨pr0, ht⟩, hf, hK⟩, hX, hle, hri, hla⟩ := hcs
  replace h5 : M 1005 = some (.inr (5, [.ref 1001, .ref 1003, .ref 1006, .ref 1007, .int (nI (K.length + 1)), .int 1, .int 0, .int (nI sy), .int (-1), .ref ou, .ref 1208, .ref 1209, .ref 1210])) := h5
  replace ht : M (2 * K.length + 1008) = some (.inr (7, [.ref (38 + ro), .ref nm, .int mo, .int pr0, .int (nI ar), .ref (2 * K.length + 1009)])) := ht
  replace hf : M (2 * K.length + 1009) = some (.inr (8, [.int fe, .long fv, .int fa, .int fb])) := hf
  replace hle : M 1208 = some (.inr (8, [.int le, .long lv, .int l0, .int l1])) := hle
  replace hri : M 1209 = some (.inr (8, [.int re, .long rv, .int r0, .int r1])) := hri
  replace hla : M 1210 = some (.inr (8, [.int e, .long v, .int a0, .int b0])) := hla
  have tk0 := tok_ok f ha
  have hm := t_Vars_find G (d := 3) (nx := nx) (by omega) hV h2 (p := (tok f n a).2.1) (e := (tok f n a).2.2.1) (by omega) (by omega)
  have hlu : cl_lu c Vl Vg Vn f (tok f n a).2.1 (tok f n a).2.2.1 = (vfF (vmt Vl Vg ((tok f n a).2.2.1 - (tok f n a).2.1) (fun j => f ((tok f n a).2.1 + j))) c 0).map Vn := rfl
  rcases hq : vfF (vmt Vl Vg ((tok f n a).2.2.1 - (tok f n a).2.1) (fun j => f ((tok f n a).2.1 + j))) c 0 with _ | i0
  · rw [hq] at hm hlu
    refine v_aload_n (am_Dk d_Rd_readVariable (k := 0) rfl) rfl ?_
    refine v_get (am_Dk d_Rd_readVariable (k := 1) rfl) f_Rd_15 h5 rfl ?_
    refine v_aload_n (am_Dk d_Rd_readVariable (k := 2) rfl) rfl ?_
    refine v_get (am_Dk d_Rd_readVariable (k := 3) rfl) f_Rd_9 h5 rfl ?_
    refine v_get9 (am_Dk d_Rd_readVariable (k := 4) rfl) r_Rd_164 h1 rfl ?_
    refine v_aload_n (am_Dk d_Rd_readVariable (k := 5) rfl) rfl ?_
    refine v_get (am_Dk d_Rd_readVariable (k := 6) rfl) f_Rd_24 h5 rfl ?_
    refine v_get (am_Dk d_Rd_readVariable (k := 7) rfl) f_Rd_74 h6 rfl ?_
    refine v_aload_n (am_Dk d_Rd_readVariable (k := 8) rfl) rfl ?_
    refine v_get (am_Dk d_Rd_readVariable (k := 9) rfl) f_Rd_24 h5 rfl ?_
    refine v_get (am_Dk d_Rd_readVariable (k := 10) rfl) f_Rd_170 h6 rfl ?_
    refine v_callV (rest := []) (As := [.ref 1002, .int (nI (tok f n a).2.1), .int (nI (tok f n a).2.2.1)]) (mc' := 0) (ms' := 0) (am_Dk d_Rd_readVariable (k := 11) rfl) c_Rd_173 (Or.inl ⟨_, _, _, _, _, hV.1, cq_ok2⟩) (hm) (by omega) (by omega) (by omega) (by simp [Value.category]) rfl (fun v1 M2 n3 h4 => ?_) (fun _ _ _ h4 => ?_)
    rotate_left
    · exact absurd h4.1 (by simp)
    obtain ⟨h4, e5, e6⟩ := h4
    replace e5 := e5.symm
    replace e6 := e6.symm
    subst e5
    subst e6
    cases h4
    show am_V G _ _ _ _ _ 28 [(0, .ref 1005)] [.null] M nx 0 0
    refine v_astore_nN (L1 := [(1, .null), (0, .ref 1005)]) (am_Dk d_Rd_readVariable (k := 12) rfl) (by decide) rfl ?_
    refine v_aload_nN (am_Dk d_Rd_readVariable (k := 13) rfl) rfl ?_
    refine v_ifnonnullN (am_Dk d_Rd_readVariable (k := 14) rfl) ?_
    refine v_aload_n (am_Dk d_Rd_readVariable (k := 15) rfl) rfl ?_
    refine v_get (am_Dk d_Rd_readVariable (k := 16) rfl) f_Rd_54 h5 rfl ?_
    refine v_iconst (v := 1) (am_Dk d_Rd_readVariable (k := 17) rfl) (by decide) ?_
    refine v_callV (rest := []) (As := [.int 1]) (mc' := 0) (ms' := 0) (am_Dk d_Rd_readVariable (k := 18) rfl) c_Rd_179 (Or.inl ⟨_, _, _, _, _, hla, cq_ok8⟩) (t_Op_fail G (d := 0) (by omega) hla) (by omega) (by omega) (by omega) (by simp [Value.category]) rfl (fun v7 M8 n9 h10 => ?_) (fun _ _ _ h10 => ?_)
    rotate_left
    · exact absurd h10.1 (by simp)
    obtain ⟨h10, e11, e12⟩ := h10
    replace e11 := e11.symm
    replace e12 := e12.symm
    subst e11
    subst e12
    cases h10
    show am_V G _ _ _ _ _ 41 [(1, .null), (0, .ref 1005)] [] (am_up M 1210 (.inr (8, [.int 1, .long 0, .int 0, .int 0]))) nx 0 0
    refine v_goto (tgt := 55) (am_Dk d_Rd_readVariable (k := 19) rfl) (by decide) ?_
    refine v_aload_n (am_Dk d_Rd_readVariable (k := 25) rfl) rfl ?_
    have m13 : (am_up M 1210 (.inr (8, [.int 1, .long 0, .int 0, .int 0]))) 1005 = some (.inr (5, [.ref 1001, .ref 1003, .ref 1006, .ref 1007, .int (nI (K.length + 1)), .int 1, .int 0, .int (nI sy), .int (-1), .ref ou, .ref 1208, .ref 1209, .ref 1210])) := (am_up_ne (show 1005 ≠ 1210 from by decide)).trans (h5)
    refine v_get (am_Dk d_Rd_readVariable (k := 26) rfl) f_Rd_24 m13 rfl ?_
    have m14 : (am_up M 1210 (.inr (8, [.int 1, .long 0, .int 0, .int 0]))) 1006 = some (.inr (6, [.ref 1001, .ref (26 + (tok f n a).1), .int (nI (tok f n a).2.1), .int (nI (tok f n a).2.2.1), .long nu, .ref ((tok f n a).2.2.2.2), .int nf, .int nt])) := (am_up_ne (show 1006 ≠ 1210 from by decide)).trans (h6)
    refine v_get (am_Dk d_Rd_readVariable (k := 27) rfl) f_Rd_170 m14 rfl ?_
    refine v_aload_n (am_Dk d_Rd_readVariable (k := 28) rfl) rfl ?_
    refine v_get (am_Dk d_Rd_readVariable (k := 29) rfl) f_Rd_24 m13 rfl ?_
    refine v_get (am_Dk d_Rd_readVariable (k := 30) rfl) f_Rd_74 m14 rfl ?_
    refine v_iconst (v := 1) (am_Dk d_Rd_readVariable (k := 31) rfl) (by decide) ?_
    refine v_iadd (am_Dk d_Rd_readVariable (k := 32) rfl) ?_
    rw [nI_1]
    refine v_icmp_ne (tgt := 97) (am_Dk d_Rd_readVariable (k := 33) rfl) (by decide) (fun c15 => ?_) (fun c15 => ?_)
    · have Nc15 : ¬ ((tok f n a).2.2.1) = ((tok f n a).2.1 + 1) := fun z => c15 ((nI_eq (a := (tok f n a).2.2.1) (b := (tok f n a).2.1 + 1) (by omega) (by omega)).mpr z)
      have hW : ¬ ((tok f n a).2.2.1 = (tok f n a).2.1 + 1 ∧ tb f n (tok f n a).2.1 = 95) := fun z => Nc15 z.1
      refine v_iconst (v := 0) (am_Dk d_Rd_readVariable (k := 44) rfl) (by decide) ?_
      refine v_istore_n (L1 := [(2, .int 0), (1, .null), (0, .ref 1005)]) (am_Dk d_Rd_readVariable (k := 45) rfl) (by decide) rfl ?_
      refine v_iload_n (am_Dk d_Rd_readVariable (k := 46) rfl) rfl ?_
      refine v_if_ne (tgt := 124) (am_Dk d_Rd_readVariable (k := 47) rfl) (by decide) (fun c16 => ?_) (fun c16 => ?_)
      · exact absurd (by decide) c16
      · have Nc16 := (nI_eq (a := 0) (b := 0) (by omega) (by omega)).mp c16
        refine v_aload_n (am_Dk d_Rd_readVariable (k := 48) rfl) rfl ?_
        refine v_get (am_Dk d_Rd_readVariable (k := 49) rfl) f_Rd_54 m13 rfl ?_
        refine v_aload_n (am_Dk d_Rd_readVariable (k := 50) rfl) rfl ?_
        refine v_get (am_Dk d_Rd_readVariable (k := 51) rfl) f_Rd_24 m13 rfl ?_
        refine v_get (am_Dk d_Rd_readVariable (k := 52) rfl) f_Rd_74 m14 rfl ?_
        refine v_aload_n (am_Dk d_Rd_readVariable (k := 53) rfl) rfl ?_
        refine v_get (am_Dk d_Rd_readVariable (k := 54) rfl) f_Rd_24 m13 rfl ?_
        refine v_get (am_Dk d_Rd_readVariable (k := 55) rfl) f_Rd_170 m14 rfl ?_
        have m17 : (am_up M 1210 (.inr (8, [.int 1, .long 0, .int 0, .int 0]))) 1210 = some (.inr (8, [.int 1, .long 0, .int 0, .int 0])) := am_up_eq _ _ _
        refine v_callV (rest := []) (As := [.int (nI (tok f n a).2.1), .int (nI (tok f n a).2.2.1)]) (mc' := 0) (ms' := 0) (am_Dk d_Rd_readVariable (k := 56) rfl) c_Rd_193 (Or.inl ⟨_, _, _, _, _, m17, cq_ok8⟩) (t_Op_nameVariable G (d := 0) (by omega) m17) (by omega) (by omega) (by omega) (by simp [Value.category]) rfl (fun v18 M19 n20 h21 => ?_) (fun _ _ _ h21 => ?_)
        rotate_left
        · exact absurd h21.1 (by simp)
        obtain ⟨h21, e22, e23⟩ := h21
        replace e22 := e22.symm
        replace e23 := e23.symm
        subst e22
        subst e23
        cases h21
        rw [am_uu0 (a := 1210)]
        show am_V G _ _ _ _ _ 124 [(2, .int 0), (1, .null), (0, .ref 1005)] [] (am_up M 1210 (.inr (8, [.int 1, .long 0, .int (nI (tok f n a).2.1), .int (nI (tok f n a).2.2.1)]))) nx 0 0
        refine v_aload_n (am_Dk d_Rd_readVariable (k := 57) rfl) rfl ?_
        have m24 : (am_up M 1210 (.inr (8, [.int 1, .long 0, .int (nI (tok f n a).2.1), .int (nI (tok f n a).2.2.1)]))) 1005 = some (.inr (5, [.ref 1001, .ref 1003, .ref 1006, .ref 1007, .int (nI (K.length + 1)), .int 1, .int 0, .int (nI sy), .int (-1), .ref ou, .ref 1208, .ref 1209, .ref 1210])) := (am_up_ne (show 1005 ≠ 1210 from by decide)).trans (h5)
        refine v_get (am_Dk d_Rd_readVariable (k := 58) rfl) f_Rd_24 m24 rfl ?_
        have m25 : (am_up M 1210 (.inr (8, [.int 1, .long 0, .int (nI (tok f n a).2.1), .int (nI (tok f n a).2.2.1)]))) 1001 = some (.inr (1, [.ref 1002, .int (nI n)])) := (am_up_ne (show 1001 ≠ 1210 from by decide)).trans (h1)
        have m26 : (am_up M 1210 (.inr (8, [.int 1, .long 0, .int (nI (tok f n a).2.1), .int (nI (tok f n a).2.2.1)]))) 1002 = some (.inl (0, 4096, .inl f)) := (am_up_ne (show 1002 ≠ 1210 from by decide)).trans (h2)
        have m27 : (am_up M 1210 (.inr (8, [.int 1, .long 0, .int (nI (tok f n a).2.1), .int (nI (tok f n a).2.2.1)]))) 1006 = some (.inr (6, [.ref 1001, .ref (26 + (tok f n a).1), .int (nI (tok f n a).2.1), .int (nI (tok f n a).2.2.1), .long nu, .ref ((tok f n a).2.2.2.2), .int nf, .int nt])) := (am_up_ne (show 1006 ≠ 1210 from by decide)).trans (h6)
        refine v_callV (rest := []) (As := []) (mc' := 0) (ms' := 0) (am_Dk d_Rd_readVariable (k := 59) rfl) c_Rd_155 (Or.inl ⟨_, _, _, _, _, m27, cq_ok6⟩) (t_Sg_next G (d := 6) (a := (tok f n a).2.2.1) (by omega) m25 m26 (by omega) (by omega) m27) (by omega) (by omega) (by omega) (by simp [Value.category]) rfl (fun v28 M29 n30 h31 => ?_) (fun _ _ _ h31 => ?_)
        rotate_left
        · exact absurd h31.1 (by simp)
        obtain ⟨h31, e36, nu32, nf33, nt34, e35, hv37⟩ := h31
        replace e35 := e35.symm
        replace e36 := e36.symm
        subst e35
        subst e36
        cases h31
        show am_V G _ _ _ _ _ 131 [(2, .int 0), (1, .null), (0, .ref 1005)] [] (am_up (am_up M 1210 (.inr (8, [.int 1, .long 0, .int (nI (tok f n a).2.1), .int (nI (tok f n a).2.2.1)]))) 1006 (.inr (6, [.ref 1001, .ref (26 + (tok f n ((tok f n a).2.2.1)).1), .int (nI (tok f n ((tok f n a).2.2.1)).2.1), .int (nI (tok f n ((tok f n a).2.2.1)).2.2.1), .long nu32, .ref ((tok f n ((tok f n a).2.2.1)).2.2.2.2), .int nf33, .int nt34]))) nx 0 0
        have tk_h31 := tok_ok f (show (tok f n a).2.2.1 ≤ n from by omega)
        refine v_aload_n (am_Dk d_Rd_readVariable (k := 60) rfl) rfl ?_
        have m38 : (am_up (am_up M 1210 (.inr (8, [.int 1, .long 0, .int (nI (tok f n a).2.1), .int (nI (tok f n a).2.2.1)]))) 1006 (.inr (6, [.ref 1001, .ref (26 + (tok f n ((tok f n a).2.2.1)).1), .int (nI (tok f n ((tok f n a).2.2.1)).2.1), .int (nI (tok f n ((tok f n a).2.2.1)).2.2.1), .long nu32, .ref ((tok f n ((tok f n a).2.2.1)).2.2.2.2), .int nf33, .int nt34]))) 1005 = some (.inr (5, [.ref 1001, .ref 1003, .ref 1006, .ref 1007, .int (nI (K.length + 1)), .int 1, .int 0, .int (nI sy), .int (-1), .ref ou, .ref 1208, .ref 1209, .ref 1210])) := (am_up_ne (show 1005 ≠ 1006 from by decide)).trans ((am_up_ne (show 1005 ≠ 1210 from by decide)).trans (h5))
        have m39 : (am_up (am_up M 1210 (.inr (8, [.int 1, .long 0, .int (nI (tok f n a).2.1), .int (nI (tok f n a).2.2.1)]))) 1006 (.inr (6, [.ref 1001, .ref (26 + (tok f n ((tok f n a).2.2.1)).1), .int (nI (tok f n ((tok f n a).2.2.1)).2.1), .int (nI (tok f n ((tok f n a).2.2.1)).2.2.1), .long nu32, .ref ((tok f n ((tok f n a).2.2.1)).2.2.2.2), .int nf33, .int nt34]))) 1007 = some (.inl (4, 100, .inr (.inr (.inr (.inr (ci_arr 100)))))) := (am_up_ne (show 1007 ≠ 1006 from by decide)).trans ((am_up_ne (show 1007 ≠ 1210 from by decide)).trans (h7))
        have m40 : (am_up (am_up M 1210 (.inr (8, [.int 1, .long 0, .int (nI (tok f n a).2.1), .int (nI (tok f n a).2.2.1)]))) 1006 (.inr (6, [.ref 1001, .ref (26 + (tok f n ((tok f n a).2.2.1)).1), .int (nI (tok f n ((tok f n a).2.2.1)).2.1), .int (nI (tok f n ((tok f n a).2.2.1)).2.2.1), .long nu32, .ref ((tok f n ((tok f n a).2.2.1)).2.2.2.2), .int nf33, .int nt34]))) (2 * K.length + 1008) = some (.inr (7, [.ref (38 + ro), .ref nm, .int mo, .int pr0, .int (nI ar), .ref (2 * K.length + 1009)])) := (am_up_ne (show (2 * K.length + 1008) ≠ 1006 from by omega)).trans ((am_up_ne (show (2 * K.length + 1008) ≠ 1210 from by omega)).trans (ht))
        refine v_callV (rest := []) (As := []) (mc' := 0) (ms' := 0) (am_Dk d_Rd_readVariable (k := 61) rfl) c_Rd_197 (Or.inl ⟨_, _, _, _, _, m38, cq_ok5⟩) (t_Rd_haveSimpleOperand G (d := 1) (j := K.length) (dp := 0) (by omega) (by omega) m38 m39 m40) (by omega) (by omega) (by omega) (by simp [Value.category]) rfl (fun v41 M42 n43 h44 => ?_) (fun _ _ _ h44 => ?_)
        rotate_left
        · exact absurd h44.1 (by simp)
        obtain ⟨h44, e45, e46⟩ := h44
        replace e45 := e45.symm
        replace e46 := e46.symm
        subst e45
        subst e46
        cases h44
        rw [nI_1]
        show am_V G _ _ _ _ _ 135 [(2, .int 0), (1, .null), (0, .ref 1005)] [] (am_up (am_up (am_up (am_up M 1210 (.inr (8, [.int 1, .long 0, .int (nI (tok f n a).2.1), .int (nI (tok f n a).2.2.1)]))) 1006 (.inr (6, [.ref 1001, .ref (26 + (tok f n ((tok f n a).2.2.1)).1), .int (nI (tok f n ((tok f n a).2.2.1)).2.1), .int (nI (tok f n ((tok f n a).2.2.1)).2.2.1), .long nu32, .ref ((tok f n ((tok f n a).2.2.1)).2.2.2.2), .int nf33, .int nt34]))) (2 * K.length + 1008) (.inr (7, [.ref (38 + ro), .ref nm, .int mo, .int 0, .int (nI ar), .ref (2 * K.length + 1009)]))) 1005 (.inr (5, [.ref 1001, .ref 1003, .ref 1006, .ref 1007, .int (nI (K.length + 1)), .int 0, .int 0, .int (nI (sy + 1)), .int (-1), .ref ou, .ref 1208, .ref 1209, .ref 1210]))) nx 0 0
        have hE : c_var f n (cl_lu c Vl Vg Vn f) ((ro, nm, mo, ar, (fe, fv, fa, fb)) :: K, true, false, sy, -1, ou, pr, a, (le, lv, l0, l1), (re, rv, r0, r1), (e, v, a0, b0)) = ((ro, nm, mo, ar, (fe, fv, fa, fb)) :: K, false, false, sy + 1, -1, ou, 0, ((tok f n a).2.2.1), (le, lv, l0, l1), (re, rv, r0, r1), (1, 0, (nI (tok f n a).2.1), (nI (tok f n a).2.2.1))) := by
          rw [c_var, c_vo, hlu, if_neg hW, if_neg hW, c_nxt, c_opd]
          try rfl
        refine v_return (am_Dk d_Rd_readVariable (k := 62) rfl) rfl (by omega) (by omega) ⟨rfl, rfl, ?_, fun i hi => (am_up_ne (show i ≠ 1005 from by omega)).trans ((am_up_ne (show i ≠ (2 * K.length + 1008) from by omega)).trans ((am_up_ne (show i ≠ 1006 from by omega)).trans ((am_up_ne (show i ≠ 1210 from by omega)).trans (rfl))))⟩
        rw [hE]
        exact ⟨am_up_eq _ _ _, ⟨_, _, _, (am_up_ne (show 1006 ≠ 1005 from by decide)).trans ((am_up_ne (show 1006 ≠ (2 * K.length + 1008) from by omega)).trans (am_up_eq _ _ _)), hv37⟩, (am_up_ne (show 1007 ≠ 1005 from by decide)).trans ((am_up_ne (show 1007 ≠ (2 * K.length + 1008) from by omega)).trans ((am_up_ne (show 1007 ≠ 1006 from by decide)).trans ((am_up_ne (show 1007 ≠ 1210 from by decide)).trans (h7)))), fun _ => (am_up_ne (show (2 * K.length + 1008) ≠ 1005 from by omega)).trans (am_up_eq _ _ _), ⟨⟨_, (am_up_ne (show (2 * K.length + 1008) ≠ 1005 from by omega)).trans (am_up_eq _ _ _)⟩, (am_up_ne (show (2 * K.length + 1009) ≠ 1005 from by omega)).trans ((am_up_ne (show (2 * K.length + 1009) ≠ (2 * K.length + 1008) from by omega)).trans ((am_up_ne (show (2 * K.length + 1009) ≠ 1006 from by omega)).trans ((am_up_ne (show (2 * K.length + 1009) ≠ 1210 from by omega)).trans (hf)))), cs_Kup hK (fun i z1 z2 => (am_up_ne (show i ≠ 1005 from by omega)).trans ((am_up_ne (show i ≠ (2 * K.length + 1008) from by omega)).trans ((am_up_ne (show i ≠ 1006 from by omega)).trans ((am_up_ne (show i ≠ 1210 from by omega)).trans (rfl)))))⟩, cs_Xup hX (fun i (z1 : 2 * (K.length + 1) + 1008 ≤ i) z2 => (am_up_ne (show i ≠ 1005 from by omega)).trans ((am_up_ne (show i ≠ (2 * K.length + 1008) from by omega)).trans ((am_up_ne (show i ≠ 1006 from by omega)).trans ((am_up_ne (show i ≠ 1210 from by omega)).trans (rfl))))), (am_up_ne (show 1208 ≠ 1005 from by decide)).trans ((am_up_ne (show 1208 ≠ (2 * K.length + 1008) from by omega)).trans ((am_up_ne (show 1208 ≠ 1006 from by decide)).trans ((am_up_ne (show 1208 ≠ 1210 from by decide)).trans (hle)))), (am_up_ne (show 1209 ≠ 1005 from by decide)).trans ((am_up_ne (show 1209 ≠ (2 * K.length + 1008) from by omega)).trans ((am_up_ne (show 1209 ≠ 1006 from by decide)).trans ((am_up_ne (show 1209 ≠ 1210 from by decide)).trans (hri)))), (am_up_ne (show 1210 ≠ 1005 from by decide)).trans ((am_up_ne (show 1210 ≠ (2 * K.length + 1008) from by omega)).trans ((am_up_ne (show 1210 ≠ 1006 from by decide)).trans (am_up_eq _ _ _)))⟩
    · have Nc15 := (nI_eq (a := (tok f n a).2.2.1) (b := (tok f n a).2.1 + 1) (by omega) (by omega)).mp c15
      have hA9 : (tok f n a).2.2.1 = (tok f n a).2.1 + 1 := by omega
      refine v_aload_n (am_Dk d_Rd_readVariable (k := 34) rfl) rfl ?_
      refine v_get (am_Dk d_Rd_readVariable (k := 35) rfl) f_Rd_9 m13 rfl ?_
      refine v_aload_n (am_Dk d_Rd_readVariable (k := 36) rfl) rfl ?_
      refine v_get (am_Dk d_Rd_readVariable (k := 37) rfl) f_Rd_24 m13 rfl ?_
      refine v_get (am_Dk d_Rd_readVariable (k := 38) rfl) f_Rd_74 m14 rfl ?_
      have m47 : (am_up M 1210 (.inr (8, [.int 1, .long 0, .int 0, .int 0]))) 1001 = some (.inr (1, [.ref 1002, .int (nI n)])) := (am_up_ne (show 1001 ≠ 1210 from by decide)).trans (h1)
      have m48 : (am_up M 1210 (.inr (8, [.int 1, .long 0, .int 0, .int 0]))) 1002 = some (.inl (0, 4096, .inl f)) := (am_up_ne (show 1002 ≠ 1210 from by decide)).trans (h2)
      refine v_callV (rest := []) (As := [.int (nI (tok f n a).2.1)]) (mc' := 0) (ms' := 0) (am_Dk d_Rd_readVariable (k := 39) rfl) c_Rd_189 (Or.inl ⟨_, _, _, _, _, m47, cq_ok1⟩) (t_Tape_at G (d := 0) (i := (tok f n a).2.1) (by omega) m47 m48 (by omega) (by omega)) (by omega) (by omega) (by omega) (by simp [Value.category]) rfl (fun v49 M50 n51 h52 => ?_) (fun _ _ _ h52 => ?_)
      rotate_left
      · exact absurd h52.1 (by simp)
      obtain ⟨h52, e53, e54⟩ := h52
      replace e53 := e53.symm
      replace e54 := e54.symm
      subst e53
      subst e54
      cases h52
      show am_V G _ _ _ _ _ 88 [(1, .null), (0, .ref 1005)] [.int (tb f n ((tok f n a).2.1))] (am_up M 1210 (.inr (8, [.int 1, .long 0, .int 0, .int 0]))) nx 0 0
      refine v_bipush (v := 95) (am_Dk d_Rd_readVariable (k := 40) rfl) (by decide) ?_
      refine v_icmp_ne (tgt := 97) (am_Dk d_Rd_readVariable (k := 41) rfl) (by decide) (fun c55 => ?_) (fun c55 => ?_)
      · have hW : ¬ ((tok f n a).2.2.1 = (tok f n a).2.1 + 1 ∧ tb f n (tok f n a).2.1 = 95) := fun z => c55 z.2
        refine v_iconst (v := 0) (am_Dk d_Rd_readVariable (k := 44) rfl) (by decide) ?_
        refine v_istore_n (L1 := [(2, .int 0), (1, .null), (0, .ref 1005)]) (am_Dk d_Rd_readVariable (k := 45) rfl) (by decide) rfl ?_
        refine v_iload_n (am_Dk d_Rd_readVariable (k := 46) rfl) rfl ?_
        refine v_if_ne (tgt := 124) (am_Dk d_Rd_readVariable (k := 47) rfl) (by decide) (fun c56 => ?_) (fun c56 => ?_)
        · exact absurd (by decide) c56
        · have Nc56 := (nI_eq (a := 0) (b := 0) (by omega) (by omega)).mp c56
          refine v_aload_n (am_Dk d_Rd_readVariable (k := 48) rfl) rfl ?_
          refine v_get (am_Dk d_Rd_readVariable (k := 49) rfl) f_Rd_54 m13 rfl ?_
          refine v_aload_n (am_Dk d_Rd_readVariable (k := 50) rfl) rfl ?_
          refine v_get (am_Dk d_Rd_readVariable (k := 51) rfl) f_Rd_24 m13 rfl ?_
          refine v_get (am_Dk d_Rd_readVariable (k := 52) rfl) f_Rd_74 m14 rfl ?_
          refine v_aload_n (am_Dk d_Rd_readVariable (k := 53) rfl) rfl ?_
          refine v_get (am_Dk d_Rd_readVariable (k := 54) rfl) f_Rd_24 m13 rfl ?_
          refine v_get (am_Dk d_Rd_readVariable (k := 55) rfl) f_Rd_170 m14 rfl ?_
          have m57 : (am_up M 1210 (.inr (8, [.int 1, .long 0, .int 0, .int 0]))) 1210 = some (.inr (8, [.int 1, .long 0, .int 0, .int 0])) := am_up_eq _ _ _
          refine v_callV (rest := []) (As := [.int (nI (tok f n a).2.1), .int (nI (tok f n a).2.2.1)]) (mc' := 0) (ms' := 0) (am_Dk d_Rd_readVariable (k := 56) rfl) c_Rd_193 (Or.inl ⟨_, _, _, _, _, m57, cq_ok8⟩) (t_Op_nameVariable G (d := 0) (by omega) m57) (by omega) (by omega) (by omega) (by simp [Value.category]) rfl (fun v58 M59 n60 h61 => ?_) (fun _ _ _ h61 => ?_)
          rotate_left
          · exact absurd h61.1 (by simp)
          obtain ⟨h61, e62, e63⟩ := h61
          replace e62 := e62.symm
          replace e63 := e63.symm
          subst e62
          subst e63
          cases h61
          rw [am_uu0 (a := 1210)]
          show am_V G _ _ _ _ _ 124 [(2, .int 0), (1, .null), (0, .ref 1005)] [] (am_up M 1210 (.inr (8, [.int 1, .long 0, .int (nI (tok f n a).2.1), .int (nI (tok f n a).2.2.1)]))) nx 0 0
          refine v_aload_n (am_Dk d_Rd_readVariable (k := 57) rfl) rfl ?_
          have m64 : (am_up M 1210 (.inr (8, [.int 1, .long 0, .int (nI (tok f n a).2.1), .int (nI (tok f n a).2.2.1)]))) 1005 = some (.inr (5, [.ref 1001, .ref 1003, .ref 1006, .ref 1007, .int (nI (K.length + 1)), .int 1, .int 0, .int (nI sy), .int (-1), .ref ou, .ref 1208, .ref 1209, .ref 1210])) := (am_up_ne (show 1005 ≠ 1210 from by decide)).trans (h5)
          refine v_get (am_Dk d_Rd_readVariable (k := 58) rfl) f_Rd_24 m64 rfl ?_
          have m65 : (am_up M 1210 (.inr (8, [.int 1, .long 0, .int (nI (tok f n a).2.1), .int (nI (tok f n a).2.2.1)]))) 1001 = some (.inr (1, [.ref 1002, .int (nI n)])) := (am_up_ne (show 1001 ≠ 1210 from by decide)).trans (h1)
          have m66 : (am_up M 1210 (.inr (8, [.int 1, .long 0, .int (nI (tok f n a).2.1), .int (nI (tok f n a).2.2.1)]))) 1002 = some (.inl (0, 4096, .inl f)) := (am_up_ne (show 1002 ≠ 1210 from by decide)).trans (h2)
          have m67 : (am_up M 1210 (.inr (8, [.int 1, .long 0, .int (nI (tok f n a).2.1), .int (nI (tok f n a).2.2.1)]))) 1006 = some (.inr (6, [.ref 1001, .ref (26 + (tok f n a).1), .int (nI (tok f n a).2.1), .int (nI (tok f n a).2.2.1), .long nu, .ref ((tok f n a).2.2.2.2), .int nf, .int nt])) := (am_up_ne (show 1006 ≠ 1210 from by decide)).trans (h6)
          refine v_callV (rest := []) (As := []) (mc' := 0) (ms' := 0) (am_Dk d_Rd_readVariable (k := 59) rfl) c_Rd_155 (Or.inl ⟨_, _, _, _, _, m67, cq_ok6⟩) (t_Sg_next G (d := 6) (a := (tok f n a).2.2.1) (by omega) m65 m66 (by omega) (by omega) m67) (by omega) (by omega) (by omega) (by simp [Value.category]) rfl (fun v68 M69 n70 h71 => ?_) (fun _ _ _ h71 => ?_)
          rotate_left
          · exact absurd h71.1 (by simp)
          obtain ⟨h71, e76, nu72, nf73, nt74, e75, hv77⟩ := h71
          replace e75 := e75.symm
          replace e76 := e76.symm
          subst e75
          subst e76
          cases h71
          show am_V G _ _ _ _ _ 131 [(2, .int 0), (1, .null), (0, .ref 1005)] [] (am_up (am_up M 1210 (.inr (8, [.int 1, .long 0, .int (nI (tok f n a).2.1), .int (nI (tok f n a).2.2.1)]))) 1006 (.inr (6, [.ref 1001, .ref (26 + (tok f n ((tok f n a).2.2.1)).1), .int (nI (tok f n ((tok f n a).2.2.1)).2.1), .int (nI (tok f n ((tok f n a).2.2.1)).2.2.1), .long nu72, .ref ((tok f n ((tok f n a).2.2.1)).2.2.2.2), .int nf73, .int nt74]))) nx 0 0
          have tk_h71 := tok_ok f (show (tok f n a).2.2.1 ≤ n from by omega)
          refine v_aload_n (am_Dk d_Rd_readVariable (k := 60) rfl) rfl ?_
          have m78 : (am_up (am_up M 1210 (.inr (8, [.int 1, .long 0, .int (nI (tok f n a).2.1), .int (nI (tok f n a).2.2.1)]))) 1006 (.inr (6, [.ref 1001, .ref (26 + (tok f n ((tok f n a).2.2.1)).1), .int (nI (tok f n ((tok f n a).2.2.1)).2.1), .int (nI (tok f n ((tok f n a).2.2.1)).2.2.1), .long nu72, .ref ((tok f n ((tok f n a).2.2.1)).2.2.2.2), .int nf73, .int nt74]))) 1005 = some (.inr (5, [.ref 1001, .ref 1003, .ref 1006, .ref 1007, .int (nI (K.length + 1)), .int 1, .int 0, .int (nI sy), .int (-1), .ref ou, .ref 1208, .ref 1209, .ref 1210])) := (am_up_ne (show 1005 ≠ 1006 from by decide)).trans ((am_up_ne (show 1005 ≠ 1210 from by decide)).trans (h5))
          have m79 : (am_up (am_up M 1210 (.inr (8, [.int 1, .long 0, .int (nI (tok f n a).2.1), .int (nI (tok f n a).2.2.1)]))) 1006 (.inr (6, [.ref 1001, .ref (26 + (tok f n ((tok f n a).2.2.1)).1), .int (nI (tok f n ((tok f n a).2.2.1)).2.1), .int (nI (tok f n ((tok f n a).2.2.1)).2.2.1), .long nu72, .ref ((tok f n ((tok f n a).2.2.1)).2.2.2.2), .int nf73, .int nt74]))) 1007 = some (.inl (4, 100, .inr (.inr (.inr (.inr (ci_arr 100)))))) := (am_up_ne (show 1007 ≠ 1006 from by decide)).trans ((am_up_ne (show 1007 ≠ 1210 from by decide)).trans (h7))
          have m80 : (am_up (am_up M 1210 (.inr (8, [.int 1, .long 0, .int (nI (tok f n a).2.1), .int (nI (tok f n a).2.2.1)]))) 1006 (.inr (6, [.ref 1001, .ref (26 + (tok f n ((tok f n a).2.2.1)).1), .int (nI (tok f n ((tok f n a).2.2.1)).2.1), .int (nI (tok f n ((tok f n a).2.2.1)).2.2.1), .long nu72, .ref ((tok f n ((tok f n a).2.2.1)).2.2.2.2), .int nf73, .int nt74]))) (2 * K.length + 1008) = some (.inr (7, [.ref (38 + ro), .ref nm, .int mo, .int pr0, .int (nI ar), .ref (2 * K.length + 1009)])) := (am_up_ne (show (2 * K.length + 1008) ≠ 1006 from by omega)).trans ((am_up_ne (show (2 * K.length + 1008) ≠ 1210 from by omega)).trans (ht))
          refine v_callV (rest := []) (As := []) (mc' := 0) (ms' := 0) (am_Dk d_Rd_readVariable (k := 61) rfl) c_Rd_197 (Or.inl ⟨_, _, _, _, _, m78, cq_ok5⟩) (t_Rd_haveSimpleOperand G (d := 1) (j := K.length) (dp := 0) (by omega) (by omega) m78 m79 m80) (by omega) (by omega) (by omega) (by simp [Value.category]) rfl (fun v81 M82 n83 h84 => ?_) (fun _ _ _ h84 => ?_)
          rotate_left
          · exact absurd h84.1 (by simp)
          obtain ⟨h84, e85, e86⟩ := h84
          replace e85 := e85.symm
          replace e86 := e86.symm
          subst e85
          subst e86
          cases h84
          rw [nI_1]
          show am_V G _ _ _ _ _ 135 [(2, .int 0), (1, .null), (0, .ref 1005)] [] (am_up (am_up (am_up (am_up M 1210 (.inr (8, [.int 1, .long 0, .int (nI (tok f n a).2.1), .int (nI (tok f n a).2.2.1)]))) 1006 (.inr (6, [.ref 1001, .ref (26 + (tok f n ((tok f n a).2.2.1)).1), .int (nI (tok f n ((tok f n a).2.2.1)).2.1), .int (nI (tok f n ((tok f n a).2.2.1)).2.2.1), .long nu72, .ref ((tok f n ((tok f n a).2.2.1)).2.2.2.2), .int nf73, .int nt74]))) (2 * K.length + 1008) (.inr (7, [.ref (38 + ro), .ref nm, .int mo, .int 0, .int (nI ar), .ref (2 * K.length + 1009)]))) 1005 (.inr (5, [.ref 1001, .ref 1003, .ref 1006, .ref 1007, .int (nI (K.length + 1)), .int 0, .int 0, .int (nI (sy + 1)), .int (-1), .ref ou, .ref 1208, .ref 1209, .ref 1210]))) nx 0 0
          have hE : c_var f n (cl_lu c Vl Vg Vn f) ((ro, nm, mo, ar, (fe, fv, fa, fb)) :: K, true, false, sy, -1, ou, pr, a, (le, lv, l0, l1), (re, rv, r0, r1), (e, v, a0, b0)) = ((ro, nm, mo, ar, (fe, fv, fa, fb)) :: K, false, false, sy + 1, -1, ou, 0, ((tok f n a).2.2.1), (le, lv, l0, l1), (re, rv, r0, r1), (1, 0, (nI (tok f n a).2.1), (nI (tok f n a).2.2.1))) := by
            rw [c_var, c_vo, hlu, if_neg hW, if_neg hW, c_nxt, c_opd]
            try rfl
          refine v_return (am_Dk d_Rd_readVariable (k := 62) rfl) rfl (by omega) (by omega) ⟨rfl, rfl, ?_, fun i hi => (am_up_ne (show i ≠ 1005 from by omega)).trans ((am_up_ne (show i ≠ (2 * K.length + 1008) from by omega)).trans ((am_up_ne (show i ≠ 1006 from by omega)).trans ((am_up_ne (show i ≠ 1210 from by omega)).trans (rfl))))⟩
          rw [hE]
          exact ⟨am_up_eq _ _ _, ⟨_, _, _, (am_up_ne (show 1006 ≠ 1005 from by decide)).trans ((am_up_ne (show 1006 ≠ (2 * K.length + 1008) from by omega)).trans (am_up_eq _ _ _)), hv77⟩, (am_up_ne (show 1007 ≠ 1005 from by decide)).trans ((am_up_ne (show 1007 ≠ (2 * K.length + 1008) from by omega)).trans ((am_up_ne (show 1007 ≠ 1006 from by decide)).trans ((am_up_ne (show 1007 ≠ 1210 from by decide)).trans (h7)))), fun _ => (am_up_ne (show (2 * K.length + 1008) ≠ 1005 from by omega)).trans (am_up_eq _ _ _), ⟨⟨_, (am_up_ne (show (2 * K.length + 1008) ≠ 1005 from by omega)).trans (am_up_eq _ _ _)⟩, (am_up_ne (show (2 * K.length + 1009) ≠ 1005 from by omega)).trans ((am_up_ne (show (2 * K.length + 1009) ≠ (2 * K.length + 1008) from by omega)).trans ((am_up_ne (show (2 * K.length + 1009) ≠ 1006 from by omega)).trans ((am_up_ne (show (2 * K.length + 1009) ≠ 1210 from by omega)).trans (hf)))), cs_Kup hK (fun i z1 z2 => (am_up_ne (show i ≠ 1005 from by omega)).trans ((am_up_ne (show i ≠ (2 * K.length + 1008) from by omega)).trans ((am_up_ne (show i ≠ 1006 from by omega)).trans ((am_up_ne (show i ≠ 1210 from by omega)).trans (rfl)))))⟩, cs_Xup hX (fun i (z1 : 2 * (K.length + 1) + 1008 ≤ i) z2 => (am_up_ne (show i ≠ 1005 from by omega)).trans ((am_up_ne (show i ≠ (2 * K.length + 1008) from by omega)).trans ((am_up_ne (show i ≠ 1006 from by omega)).trans ((am_up_ne (show i ≠ 1210 from by omega)).trans (rfl))))), (am_up_ne (show 1208 ≠ 1005 from by decide)).trans ((am_up_ne (show 1208 ≠ (2 * K.length + 1008) from by omega)).trans ((am_up_ne (show 1208 ≠ 1006 from by decide)).trans ((am_up_ne (show 1208 ≠ 1210 from by decide)).trans (hle)))), (am_up_ne (show 1209 ≠ 1005 from by decide)).trans ((am_up_ne (show 1209 ≠ (2 * K.length + 1008) from by omega)).trans ((am_up_ne (show 1209 ≠ 1006 from by decide)).trans ((am_up_ne (show 1209 ≠ 1210 from by decide)).trans (hri)))), (am_up_ne (show 1210 ≠ 1005 from by decide)).trans ((am_up_ne (show 1210 ≠ (2 * K.length + 1008) from by omega)).trans ((am_up_ne (show 1210 ≠ 1006 from by decide)).trans (am_up_eq _ _ _)))⟩
      · have hW : (tok f n a).2.2.1 = (tok f n a).2.1 + 1 ∧ tb f n (tok f n a).2.1 = 95 := ⟨hA9, c55⟩
        refine v_iconst (v := 1) (am_Dk d_Rd_readVariable (k := 42) rfl) (by decide) ?_
        refine v_goto (tgt := 98) (am_Dk d_Rd_readVariable (k := 43) rfl) (by decide) ?_
        refine v_istore_n (L1 := [(2, .int 1), (1, .null), (0, .ref 1005)]) (am_Dk d_Rd_readVariable (k := 45) rfl) (by decide) rfl ?_
        refine v_iload_n (am_Dk d_Rd_readVariable (k := 46) rfl) rfl ?_
        refine v_if_ne (tgt := 124) (am_Dk d_Rd_readVariable (k := 47) rfl) (by decide) (fun c87 => ?_) (fun c87 => ?_)
        · have Nc87 : ¬ 1 = 0 := fun z => c87 ((nI_eq (a := 1) (b := 0) (by omega) (by omega)).mpr z)
          refine v_aload_n (am_Dk d_Rd_readVariable (k := 57) rfl) rfl ?_
          refine v_get (am_Dk d_Rd_readVariable (k := 58) rfl) f_Rd_24 m13 rfl ?_
          refine v_callV (rest := []) (As := []) (mc' := 0) (ms' := 0) (am_Dk d_Rd_readVariable (k := 59) rfl) c_Rd_155 (Or.inl ⟨_, _, _, _, _, m14, cq_ok6⟩) (t_Sg_next G (d := 6) (a := (tok f n a).2.2.1) (by omega) m47 m48 (by omega) (by omega) m14) (by omega) (by omega) (by omega) (by simp [Value.category]) rfl (fun v88 M89 n90 h91 => ?_) (fun _ _ _ h91 => ?_)
          rotate_left
          · exact absurd h91.1 (by simp)
          obtain ⟨h91, e96, nu92, nf93, nt94, e95, hv97⟩ := h91
          replace e95 := e95.symm
          replace e96 := e96.symm
          subst e95
          subst e96
          cases h91
          show am_V G _ _ _ _ _ 131 [(2, .int 1), (1, .null), (0, .ref 1005)] [] (am_up (am_up M 1210 (.inr (8, [.int 1, .long 0, .int 0, .int 0]))) 1006 (.inr (6, [.ref 1001, .ref (26 + (tok f n ((tok f n a).2.2.1)).1), .int (nI (tok f n ((tok f n a).2.2.1)).2.1), .int (nI (tok f n ((tok f n a).2.2.1)).2.2.1), .long nu92, .ref ((tok f n ((tok f n a).2.2.1)).2.2.2.2), .int nf93, .int nt94]))) nx 0 0
          have tk_h91 := tok_ok f (show (tok f n a).2.2.1 ≤ n from by omega)
          refine v_aload_n (am_Dk d_Rd_readVariable (k := 60) rfl) rfl ?_
          have m98 : (am_up (am_up M 1210 (.inr (8, [.int 1, .long 0, .int 0, .int 0]))) 1006 (.inr (6, [.ref 1001, .ref (26 + (tok f n ((tok f n a).2.2.1)).1), .int (nI (tok f n ((tok f n a).2.2.1)).2.1), .int (nI (tok f n ((tok f n a).2.2.1)).2.2.1), .long nu92, .ref ((tok f n ((tok f n a).2.2.1)).2.2.2.2), .int nf93, .int nt94]))) 1005 = some (.inr (5, [.ref 1001, .ref 1003, .ref 1006, .ref 1007, .int (nI (K.length + 1)), .int 1, .int 0, .int (nI sy), .int (-1), .ref ou, .ref 1208, .ref 1209, .ref 1210])) := (am_up_ne (show 1005 ≠ 1006 from by decide)).trans ((am_up_ne (show 1005 ≠ 1210 from by decide)).trans (h5))
          have m99 : (am_up (am_up M 1210 (.inr (8, [.int 1, .long 0, .int 0, .int 0]))) 1006 (.inr (6, [.ref 1001, .ref (26 + (tok f n ((tok f n a).2.2.1)).1), .int (nI (tok f n ((tok f n a).2.2.1)).2.1), .int (nI (tok f n ((tok f n a).2.2.1)).2.2.1), .long nu92, .ref ((tok f n ((tok f n a).2.2.1)).2.2.2.2), .int nf93, .int nt94]))) 1007 = some (.inl (4, 100, .inr (.inr (.inr (.inr (ci_arr 100)))))) := (am_up_ne (show 1007 ≠ 1006 from by decide)).trans ((am_up_ne (show 1007 ≠ 1210 from by decide)).trans (h7))
          have m100 : (am_up (am_up M 1210 (.inr (8, [.int 1, .long 0, .int 0, .int 0]))) 1006 (.inr (6, [.ref 1001, .ref (26 + (tok f n ((tok f n a).2.2.1)).1), .int (nI (tok f n ((tok f n a).2.2.1)).2.1), .int (nI (tok f n ((tok f n a).2.2.1)).2.2.1), .long nu92, .ref ((tok f n ((tok f n a).2.2.1)).2.2.2.2), .int nf93, .int nt94]))) (2 * K.length + 1008) = some (.inr (7, [.ref (38 + ro), .ref nm, .int mo, .int pr0, .int (nI ar), .ref (2 * K.length + 1009)])) := (am_up_ne (show (2 * K.length + 1008) ≠ 1006 from by omega)).trans ((am_up_ne (show (2 * K.length + 1008) ≠ 1210 from by omega)).trans (ht))
          refine v_callV (rest := []) (As := []) (mc' := 0) (ms' := 0) (am_Dk d_Rd_readVariable (k := 61) rfl) c_Rd_197 (Or.inl ⟨_, _, _, _, _, m98, cq_ok5⟩) (t_Rd_haveSimpleOperand G (d := 1) (j := K.length) (dp := 0) (by omega) (by omega) m98 m99 m100) (by omega) (by omega) (by omega) (by simp [Value.category]) rfl (fun v101 M102 n103 h104 => ?_) (fun _ _ _ h104 => ?_)
          rotate_left
          · exact absurd h104.1 (by simp)
          obtain ⟨h104, e105, e106⟩ := h104
          replace e105 := e105.symm
          replace e106 := e106.symm
          subst e105
          subst e106
          cases h104
          rw [nI_1]
          show am_V G _ _ _ _ _ 135 [(2, .int 1), (1, .null), (0, .ref 1005)] [] (am_up (am_up (am_up (am_up M 1210 (.inr (8, [.int 1, .long 0, .int 0, .int 0]))) 1006 (.inr (6, [.ref 1001, .ref (26 + (tok f n ((tok f n a).2.2.1)).1), .int (nI (tok f n ((tok f n a).2.2.1)).2.1), .int (nI (tok f n ((tok f n a).2.2.1)).2.2.1), .long nu92, .ref ((tok f n ((tok f n a).2.2.1)).2.2.2.2), .int nf93, .int nt94]))) (2 * K.length + 1008) (.inr (7, [.ref (38 + ro), .ref nm, .int mo, .int 0, .int (nI ar), .ref (2 * K.length + 1009)]))) 1005 (.inr (5, [.ref 1001, .ref 1003, .ref 1006, .ref 1007, .int (nI (K.length + 1)), .int 0, .int 0, .int (nI (sy + 1)), .int (-1), .ref ou, .ref 1208, .ref 1209, .ref 1210]))) nx 0 0
          have hE : c_var f n (cl_lu c Vl Vg Vn f) ((ro, nm, mo, ar, (fe, fv, fa, fb)) :: K, true, false, sy, -1, ou, pr, a, (le, lv, l0, l1), (re, rv, r0, r1), (e, v, a0, b0)) = ((ro, nm, mo, ar, (fe, fv, fa, fb)) :: K, false, false, sy + 1, -1, ou, 0, ((tok f n a).2.2.1), (le, lv, l0, l1), (re, rv, r0, r1), (1, 0, 0, 0)) := by
            rw [c_var, c_vo, hlu, if_pos hW, if_pos hW, c_nxt, c_opd]
            try rfl
          refine v_return (am_Dk d_Rd_readVariable (k := 62) rfl) rfl (by omega) (by omega) ⟨rfl, rfl, ?_, fun i hi => (am_up_ne (show i ≠ 1005 from by omega)).trans ((am_up_ne (show i ≠ (2 * K.length + 1008) from by omega)).trans ((am_up_ne (show i ≠ 1006 from by omega)).trans ((am_up_ne (show i ≠ 1210 from by omega)).trans (rfl))))⟩
          rw [hE]
          exact ⟨am_up_eq _ _ _, ⟨_, _, _, (am_up_ne (show 1006 ≠ 1005 from by decide)).trans ((am_up_ne (show 1006 ≠ (2 * K.length + 1008) from by omega)).trans (am_up_eq _ _ _)), hv97⟩, (am_up_ne (show 1007 ≠ 1005 from by decide)).trans ((am_up_ne (show 1007 ≠ (2 * K.length + 1008) from by omega)).trans ((am_up_ne (show 1007 ≠ 1006 from by decide)).trans ((am_up_ne (show 1007 ≠ 1210 from by decide)).trans (h7)))), fun _ => (am_up_ne (show (2 * K.length + 1008) ≠ 1005 from by omega)).trans (am_up_eq _ _ _), ⟨⟨_, (am_up_ne (show (2 * K.length + 1008) ≠ 1005 from by omega)).trans (am_up_eq _ _ _)⟩, (am_up_ne (show (2 * K.length + 1009) ≠ 1005 from by omega)).trans ((am_up_ne (show (2 * K.length + 1009) ≠ (2 * K.length + 1008) from by omega)).trans ((am_up_ne (show (2 * K.length + 1009) ≠ 1006 from by omega)).trans ((am_up_ne (show (2 * K.length + 1009) ≠ 1210 from by omega)).trans (hf)))), cs_Kup hK (fun i z1 z2 => (am_up_ne (show i ≠ 1005 from by omega)).trans ((am_up_ne (show i ≠ (2 * K.length + 1008) from by omega)).trans ((am_up_ne (show i ≠ 1006 from by omega)).trans ((am_up_ne (show i ≠ 1210 from by omega)).trans (rfl)))))⟩, cs_Xup hX (fun i (z1 : 2 * (K.length + 1) + 1008 ≤ i) z2 => (am_up_ne (show i ≠ 1005 from by omega)).trans ((am_up_ne (show i ≠ (2 * K.length + 1008) from by omega)).trans ((am_up_ne (show i ≠ 1006 from by omega)).trans ((am_up_ne (show i ≠ 1210 from by omega)).trans (rfl))))), (am_up_ne (show 1208 ≠ 1005 from by decide)).trans ((am_up_ne (show 1208 ≠ (2 * K.length + 1008) from by omega)).trans ((am_up_ne (show 1208 ≠ 1006 from by decide)).trans ((am_up_ne (show 1208 ≠ 1210 from by decide)).trans (hle)))), (am_up_ne (show 1209 ≠ 1005 from by decide)).trans ((am_up_ne (show 1209 ≠ (2 * K.length + 1008) from by omega)).trans ((am_up_ne (show 1209 ≠ 1006 from by decide)).trans ((am_up_ne (show 1209 ≠ 1210 from by decide)).trans (hri)))), (am_up_ne (show 1210 ≠ 1005 from by decide)).trans ((am_up_ne (show 1210 ≠ (2 * K.length + 1008) from by omega)).trans ((am_up_ne (show 1210 ≠ 1006 from by decide)).trans (am_up_eq _ _ _)))⟩
        · exact absurd c87 (by decide)
  · have hi0 : i0 < c := vf_lt hq
    have hvi0 := (hV.2.2.2.2.2.2 i0 hi0).2.2.2.1
    rw [hq] at hm hlu
    refine v_aload_n (am_Dk d_Rd_readVariable (k := 0) rfl) rfl ?_
    refine v_get (am_Dk d_Rd_readVariable (k := 1) rfl) f_Rd_15 h5 rfl ?_
    refine v_aload_n (am_Dk d_Rd_readVariable (k := 2) rfl) rfl ?_
    refine v_get (am_Dk d_Rd_readVariable (k := 3) rfl) f_Rd_9 h5 rfl ?_
    refine v_get9 (am_Dk d_Rd_readVariable (k := 4) rfl) r_Rd_164 h1 rfl ?_
    refine v_aload_n (am_Dk d_Rd_readVariable (k := 5) rfl) rfl ?_
    refine v_get (am_Dk d_Rd_readVariable (k := 6) rfl) f_Rd_24 h5 rfl ?_
    refine v_get (am_Dk d_Rd_readVariable (k := 7) rfl) f_Rd_74 h6 rfl ?_
    refine v_aload_n (am_Dk d_Rd_readVariable (k := 8) rfl) rfl ?_
    refine v_get (am_Dk d_Rd_readVariable (k := 9) rfl) f_Rd_24 h5 rfl ?_
    refine v_get (am_Dk d_Rd_readVariable (k := 10) rfl) f_Rd_170 h6 rfl ?_
    refine v_callV (rest := []) (As := [.ref 1002, .int (nI (tok f n a).2.1), .int (nI (tok f n a).2.2.1)]) (mc' := 0) (ms' := 0) (am_Dk d_Rd_readVariable (k := 11) rfl) c_Rd_173 (Or.inl ⟨_, _, _, _, _, hV.1, cq_ok2⟩) (hm) (by omega) (by omega) (by omega) (by simp [Value.category]) rfl (fun v1 M2 n3 h4 => ?_) (fun _ _ _ h4 => ?_)
    rotate_left
    · exact absurd h4.1 (by simp)
    obtain ⟨h4, e5, e6⟩ := h4
    replace e5 := e5.symm
    replace e6 := e6.symm
    subst e5
    subst e6
    cases h4
    show am_V G _ _ _ _ _ 28 [(0, .ref 1005)] [.ref (Vi i0)] M nx 0 0
    refine v_astore_n (L1 := [(1, .ref (Vi i0)), (0, .ref 1005)]) (am_Dk d_Rd_readVariable (k := 12) rfl) (by decide) rfl ?_
    refine v_aload_n (am_Dk d_Rd_readVariable (k := 13) rfl) rfl ?_
    refine v_ifnonnull (tgt := 44) (am_Dk d_Rd_readVariable (k := 14) rfl) (by decide) ?_
    refine v_aload_n (am_Dk d_Rd_readVariable (k := 20) rfl) rfl ?_
    refine v_get (am_Dk d_Rd_readVariable (k := 21) rfl) f_Rd_54 h5 rfl ?_
    refine v_aload_n (am_Dk d_Rd_readVariable (k := 22) rfl) rfl ?_
    refine v_get (am_Dk d_Rd_readVariable (k := 23) rfl) f_Rd_183 (hV.2.2.2.2.2.2 i0 hi0).1 rfl ?_
    refine v_callV (rest := []) (As := [.long (Vn i0)]) (mc' := 0) (ms' := 0) (am_Dk d_Rd_readVariable (k := 24) rfl) c_Rd_186 (Or.inl ⟨_, _, _, _, _, hla, cq_ok8⟩) (t_Op_settle G (d := 0) (by omega) hla) (by omega) (by omega) (by omega) (by simp [Value.category]) rfl (fun v7 M8 n9 h10 => ?_) (fun _ _ _ h10 => ?_)
    rotate_left
    · exact absurd h10.1 (by simp)
    obtain ⟨h10, e11, e12⟩ := h10
    replace e11 := e11.symm
    replace e12 := e12.symm
    subst e11
    subst e12
    cases h10
    show am_V G _ _ _ _ _ 55 [(1, .ref (Vi i0)), (0, .ref 1005)] [] (am_up M 1210 (.inr (8, [.int (setE (Vn i0)), .long (setN (Vn i0)), .int 0, .int 0]))) nx 0 0
    refine v_aload_n (am_Dk d_Rd_readVariable (k := 25) rfl) rfl ?_
    have m13 : (am_up M 1210 (.inr (8, [.int (setE (Vn i0)), .long (setN (Vn i0)), .int 0, .int 0]))) 1005 = some (.inr (5, [.ref 1001, .ref 1003, .ref 1006, .ref 1007, .int (nI (K.length + 1)), .int 1, .int 0, .int (nI sy), .int (-1), .ref ou, .ref 1208, .ref 1209, .ref 1210])) := (am_up_ne (show 1005 ≠ 1210 from by decide)).trans (h5)
    refine v_get (am_Dk d_Rd_readVariable (k := 26) rfl) f_Rd_24 m13 rfl ?_
    have m14 : (am_up M 1210 (.inr (8, [.int (setE (Vn i0)), .long (setN (Vn i0)), .int 0, .int 0]))) 1006 = some (.inr (6, [.ref 1001, .ref (26 + (tok f n a).1), .int (nI (tok f n a).2.1), .int (nI (tok f n a).2.2.1), .long nu, .ref ((tok f n a).2.2.2.2), .int nf, .int nt])) := (am_up_ne (show 1006 ≠ 1210 from by decide)).trans (h6)
    refine v_get (am_Dk d_Rd_readVariable (k := 27) rfl) f_Rd_170 m14 rfl ?_
    refine v_aload_n (am_Dk d_Rd_readVariable (k := 28) rfl) rfl ?_
    refine v_get (am_Dk d_Rd_readVariable (k := 29) rfl) f_Rd_24 m13 rfl ?_
    refine v_get (am_Dk d_Rd_readVariable (k := 30) rfl) f_Rd_74 m14 rfl ?_
    refine v_iconst (v := 1) (am_Dk d_Rd_readVariable (k := 31) rfl) (by decide) ?_
    refine v_iadd (am_Dk d_Rd_readVariable (k := 32) rfl) ?_
    rw [nI_1]
    refine v_icmp_ne (tgt := 97) (am_Dk d_Rd_readVariable (k := 33) rfl) (by decide) (fun c15 => ?_) (fun c15 => ?_)
    · have Nc15 : ¬ ((tok f n a).2.2.1) = ((tok f n a).2.1 + 1) := fun z => c15 ((nI_eq (a := (tok f n a).2.2.1) (b := (tok f n a).2.1 + 1) (by omega) (by omega)).mpr z)
      have hW : ¬ ((tok f n a).2.2.1 = (tok f n a).2.1 + 1 ∧ tb f n (tok f n a).2.1 = 95) := fun z => Nc15 z.1
      refine v_iconst (v := 0) (am_Dk d_Rd_readVariable (k := 44) rfl) (by decide) ?_
      refine v_istore_n (L1 := [(2, .int 0), (1, .ref (Vi i0)), (0, .ref 1005)]) (am_Dk d_Rd_readVariable (k := 45) rfl) (by decide) rfl ?_
      refine v_iload_n (am_Dk d_Rd_readVariable (k := 46) rfl) rfl ?_
      refine v_if_ne (tgt := 124) (am_Dk d_Rd_readVariable (k := 47) rfl) (by decide) (fun c16 => ?_) (fun c16 => ?_)
      · exact absurd (by decide) c16
      · have Nc16 := (nI_eq (a := 0) (b := 0) (by omega) (by omega)).mp c16
        refine v_aload_n (am_Dk d_Rd_readVariable (k := 48) rfl) rfl ?_
        refine v_get (am_Dk d_Rd_readVariable (k := 49) rfl) f_Rd_54 m13 rfl ?_
        refine v_aload_n (am_Dk d_Rd_readVariable (k := 50) rfl) rfl ?_
        refine v_get (am_Dk d_Rd_readVariable (k := 51) rfl) f_Rd_24 m13 rfl ?_
        refine v_get (am_Dk d_Rd_readVariable (k := 52) rfl) f_Rd_74 m14 rfl ?_
        refine v_aload_n (am_Dk d_Rd_readVariable (k := 53) rfl) rfl ?_
        refine v_get (am_Dk d_Rd_readVariable (k := 54) rfl) f_Rd_24 m13 rfl ?_
        refine v_get (am_Dk d_Rd_readVariable (k := 55) rfl) f_Rd_170 m14 rfl ?_
        have m17 : (am_up M 1210 (.inr (8, [.int (setE (Vn i0)), .long (setN (Vn i0)), .int 0, .int 0]))) 1210 = some (.inr (8, [.int (setE (Vn i0)), .long (setN (Vn i0)), .int 0, .int 0])) := am_up_eq _ _ _
        refine v_callV (rest := []) (As := [.int (nI (tok f n a).2.1), .int (nI (tok f n a).2.2.1)]) (mc' := 0) (ms' := 0) (am_Dk d_Rd_readVariable (k := 56) rfl) c_Rd_193 (Or.inl ⟨_, _, _, _, _, m17, cq_ok8⟩) (t_Op_nameVariable G (d := 0) (by omega) m17) (by omega) (by omega) (by omega) (by simp [Value.category]) rfl (fun v18 M19 n20 h21 => ?_) (fun _ _ _ h21 => ?_)
        rotate_left
        · exact absurd h21.1 (by simp)
        obtain ⟨h21, e22, e23⟩ := h21
        replace e22 := e22.symm
        replace e23 := e23.symm
        subst e22
        subst e23
        cases h21
        rw [am_uu0 (a := 1210)]
        show am_V G _ _ _ _ _ 124 [(2, .int 0), (1, .ref (Vi i0)), (0, .ref 1005)] [] (am_up M 1210 (.inr (8, [.int (setE (Vn i0)), .long (setN (Vn i0)), .int (nI (tok f n a).2.1), .int (nI (tok f n a).2.2.1)]))) nx 0 0
        refine v_aload_n (am_Dk d_Rd_readVariable (k := 57) rfl) rfl ?_
        have m24 : (am_up M 1210 (.inr (8, [.int (setE (Vn i0)), .long (setN (Vn i0)), .int (nI (tok f n a).2.1), .int (nI (tok f n a).2.2.1)]))) 1005 = some (.inr (5, [.ref 1001, .ref 1003, .ref 1006, .ref 1007, .int (nI (K.length + 1)), .int 1, .int 0, .int (nI sy), .int (-1), .ref ou, .ref 1208, .ref 1209, .ref 1210])) := (am_up_ne (show 1005 ≠ 1210 from by decide)).trans (h5)
        refine v_get (am_Dk d_Rd_readVariable (k := 58) rfl) f_Rd_24 m24 rfl ?_
        have m25 : (am_up M 1210 (.inr (8, [.int (setE (Vn i0)), .long (setN (Vn i0)), .int (nI (tok f n a).2.1), .int (nI (tok f n a).2.2.1)]))) 1001 = some (.inr (1, [.ref 1002, .int (nI n)])) := (am_up_ne (show 1001 ≠ 1210 from by decide)).trans (h1)
        have m26 : (am_up M 1210 (.inr (8, [.int (setE (Vn i0)), .long (setN (Vn i0)), .int (nI (tok f n a).2.1), .int (nI (tok f n a).2.2.1)]))) 1002 = some (.inl (0, 4096, .inl f)) := (am_up_ne (show 1002 ≠ 1210 from by decide)).trans (h2)
        have m27 : (am_up M 1210 (.inr (8, [.int (setE (Vn i0)), .long (setN (Vn i0)), .int (nI (tok f n a).2.1), .int (nI (tok f n a).2.2.1)]))) 1006 = some (.inr (6, [.ref 1001, .ref (26 + (tok f n a).1), .int (nI (tok f n a).2.1), .int (nI (tok f n a).2.2.1), .long nu, .ref ((tok f n a).2.2.2.2), .int nf, .int nt])) := (am_up_ne (show 1006 ≠ 1210 from by decide)).trans (h6)
        refine v_callV (rest := []) (As := []) (mc' := 0) (ms' := 0) (am_Dk d_Rd_readVariable (k := 59) rfl) c_Rd_155 (Or.inl ⟨_, _, _, _, _, m27, cq_ok6⟩) (t_Sg_next G (d := 6) (a := (tok f n a).2.2.1) (by omega) m25 m26 (by omega) (by omega) m27) (by omega) (by omega) (by omega) (by simp [Value.category]) rfl (fun v28 M29 n30 h31 => ?_) (fun _ _ _ h31 => ?_)
        rotate_left
        · exact absurd h31.1 (by simp)
        obtain ⟨h31, e36, nu32, nf33, nt34, e35, hv37⟩ := h31
        replace e35 := e35.symm
        replace e36 := e36.symm
        subst e35
        subst e36
        cases h31
        show am_V G _ _ _ _ _ 131 [(2, .int 0), (1, .ref (Vi i0)), (0, .ref 1005)] [] (am_up (am_up M 1210 (.inr (8, [.int (setE (Vn i0)), .long (setN (Vn i0)), .int (nI (tok f n a).2.1), .int (nI (tok f n a).2.2.1)]))) 1006 (.inr (6, [.ref 1001, .ref (26 + (tok f n ((tok f n a).2.2.1)).1), .int (nI (tok f n ((tok f n a).2.2.1)).2.1), .int (nI (tok f n ((tok f n a).2.2.1)).2.2.1), .long nu32, .ref ((tok f n ((tok f n a).2.2.1)).2.2.2.2), .int nf33, .int nt34]))) nx 0 0
        have tk_h31 := tok_ok f (show (tok f n a).2.2.1 ≤ n from by omega)
        refine v_aload_n (am_Dk d_Rd_readVariable (k := 60) rfl) rfl ?_
        have m38 : (am_up (am_up M 1210 (.inr (8, [.int (setE (Vn i0)), .long (setN (Vn i0)), .int (nI (tok f n a).2.1), .int (nI (tok f n a).2.2.1)]))) 1006 (.inr (6, [.ref 1001, .ref (26 + (tok f n ((tok f n a).2.2.1)).1), .int (nI (tok f n ((tok f n a).2.2.1)).2.1), .int (nI (tok f n ((tok f n a).2.2.1)).2.2.1), .long nu32, .ref ((tok f n ((tok f n a).2.2.1)).2.2.2.2), .int nf33, .int nt34]))) 1005 = some (.inr (5, [.ref 1001, .ref 1003, .ref 1006, .ref 1007, .int (nI (K.length + 1)), .int 1, .int 0, .int (nI sy), .int (-1), .ref ou, .ref 1208, .ref 1209, .ref 1210])) := (am_up_ne (show 1005 ≠ 1006 from by decide)).trans ((am_up_ne (show 1005 ≠ 1210 from by decide)).trans (h5))
        have m39 : (am_up (am_up M 1210 (.inr (8, [.int (setE (Vn i0)), .long (setN (Vn i0)), .int (nI (tok f n a).2.1), .int (nI (tok f n a).2.2.1)]))) 1006 (.inr (6, [.ref 1001, .ref (26 + (tok f n ((tok f n a).2.2.1)).1), .int (nI (tok f n ((tok f n a).2.2.1)).2.1), .int (nI (tok f n ((tok f n a).2.2.1)).2.2.1), .long nu32, .ref ((tok f n ((tok f n a).2.2.1)).2.2.2.2), .int nf33, .int nt34]))) 1007 = some (.inl (4, 100, .inr (.inr (.inr (.inr (ci_arr 100)))))) := (am_up_ne (show 1007 ≠ 1006 from by decide)).trans ((am_up_ne (show 1007 ≠ 1210 from by decide)).trans (h7))
        have m40 : (am_up (am_up M 1210 (.inr (8, [.int (setE (Vn i0)), .long (setN (Vn i0)), .int (nI (tok f n a).2.1), .int (nI (tok f n a).2.2.1)]))) 1006 (.inr (6, [.ref 1001, .ref (26 + (tok f n ((tok f n a).2.2.1)).1), .int (nI (tok f n ((tok f n a).2.2.1)).2.1), .int (nI (tok f n ((tok f n a).2.2.1)).2.2.1), .long nu32, .ref ((tok f n ((tok f n a).2.2.1)).2.2.2.2), .int nf33, .int nt34]))) (2 * K.length + 1008) = some (.inr (7, [.ref (38 + ro), .ref nm, .int mo, .int pr0, .int (nI ar), .ref (2 * K.length + 1009)])) := (am_up_ne (show (2 * K.length + 1008) ≠ 1006 from by omega)).trans ((am_up_ne (show (2 * K.length + 1008) ≠ 1210 from by omega)).trans (ht))
        refine v_callV (rest := []) (As := []) (mc' := 0) (ms' := 0) (am_Dk d_Rd_readVariable (k := 61) rfl) c_Rd_197 (Or.inl ⟨_, _, _, _, _, m38, cq_ok5⟩) (t_Rd_haveSimpleOperand G (d := 1) (j := K.length) (dp := 0) (by omega) (by omega) m38 m39 m40) (by omega) (by omega) (by omega) (by simp [Value.category]) rfl (fun v41 M42 n43 h44 => ?_) (fun _ _ _ h44 => ?_)
        rotate_left
        · exact absurd h44.1 (by simp)
        obtain ⟨h44, e45, e46⟩ := h44
        replace e45 := e45.symm
        replace e46 := e46.symm
        subst e45
        subst e46
        cases h44
        rw [nI_1]
        show am_V G _ _ _ _ _ 135 [(2, .int 0), (1, .ref (Vi i0)), (0, .ref 1005)] [] (am_up (am_up (am_up (am_up M 1210 (.inr (8, [.int (setE (Vn i0)), .long (setN (Vn i0)), .int (nI (tok f n a).2.1), .int (nI (tok f n a).2.2.1)]))) 1006 (.inr (6, [.ref 1001, .ref (26 + (tok f n ((tok f n a).2.2.1)).1), .int (nI (tok f n ((tok f n a).2.2.1)).2.1), .int (nI (tok f n ((tok f n a).2.2.1)).2.2.1), .long nu32, .ref ((tok f n ((tok f n a).2.2.1)).2.2.2.2), .int nf33, .int nt34]))) (2 * K.length + 1008) (.inr (7, [.ref (38 + ro), .ref nm, .int mo, .int 0, .int (nI ar), .ref (2 * K.length + 1009)]))) 1005 (.inr (5, [.ref 1001, .ref 1003, .ref 1006, .ref 1007, .int (nI (K.length + 1)), .int 0, .int 0, .int (nI (sy + 1)), .int (-1), .ref ou, .ref 1208, .ref 1209, .ref 1210]))) nx 0 0
        have hE : c_var f n (cl_lu c Vl Vg Vn f) ((ro, nm, mo, ar, (fe, fv, fa, fb)) :: K, true, false, sy, -1, ou, pr, a, (le, lv, l0, l1), (re, rv, r0, r1), (e, v, a0, b0)) = ((ro, nm, mo, ar, (fe, fv, fa, fb)) :: K, false, false, sy + 1, -1, ou, 0, ((tok f n a).2.2.1), (le, lv, l0, l1), (re, rv, r0, r1), ((setE (Vn i0)), (setN (Vn i0)), (nI (tok f n a).2.1), (nI (tok f n a).2.2.1))) := by
          rw [c_var, c_vo, hlu, if_neg hW, if_neg hW, c_nxt, c_opd]
          try rfl
        refine v_return (am_Dk d_Rd_readVariable (k := 62) rfl) rfl (by omega) (by omega) ⟨rfl, rfl, ?_, fun i hi => (am_up_ne (show i ≠ 1005 from by omega)).trans ((am_up_ne (show i ≠ (2 * K.length + 1008) from by omega)).trans ((am_up_ne (show i ≠ 1006 from by omega)).trans ((am_up_ne (show i ≠ 1210 from by omega)).trans (rfl))))⟩
        rw [hE]
        exact ⟨am_up_eq _ _ _, ⟨_, _, _, (am_up_ne (show 1006 ≠ 1005 from by decide)).trans ((am_up_ne (show 1006 ≠ (2 * K.length + 1008) from by omega)).trans (am_up_eq _ _ _)), hv37⟩, (am_up_ne (show 1007 ≠ 1005 from by decide)).trans ((am_up_ne (show 1007 ≠ (2 * K.length + 1008) from by omega)).trans ((am_up_ne (show 1007 ≠ 1006 from by decide)).trans ((am_up_ne (show 1007 ≠ 1210 from by decide)).trans (h7)))), fun _ => (am_up_ne (show (2 * K.length + 1008) ≠ 1005 from by omega)).trans (am_up_eq _ _ _), ⟨⟨_, (am_up_ne (show (2 * K.length + 1008) ≠ 1005 from by omega)).trans (am_up_eq _ _ _)⟩, (am_up_ne (show (2 * K.length + 1009) ≠ 1005 from by omega)).trans ((am_up_ne (show (2 * K.length + 1009) ≠ (2 * K.length + 1008) from by omega)).trans ((am_up_ne (show (2 * K.length + 1009) ≠ 1006 from by omega)).trans ((am_up_ne (show (2 * K.length + 1009) ≠ 1210 from by omega)).trans (hf)))), cs_Kup hK (fun i z1 z2 => (am_up_ne (show i ≠ 1005 from by omega)).trans ((am_up_ne (show i ≠ (2 * K.length + 1008) from by omega)).trans ((am_up_ne (show i ≠ 1006 from by omega)).trans ((am_up_ne (show i ≠ 1210 from by omega)).trans (rfl)))))⟩, cs_Xup hX (fun i (z1 : 2 * (K.length + 1) + 1008 ≤ i) z2 => (am_up_ne (show i ≠ 1005 from by omega)).trans ((am_up_ne (show i ≠ (2 * K.length + 1008) from by omega)).trans ((am_up_ne (show i ≠ 1006 from by omega)).trans ((am_up_ne (show i ≠ 1210 from by omega)).trans (rfl))))), (am_up_ne (show 1208 ≠ 1005 from by decide)).trans ((am_up_ne (show 1208 ≠ (2 * K.length + 1008) from by omega)).trans ((am_up_ne (show 1208 ≠ 1006 from by decide)).trans ((am_up_ne (show 1208 ≠ 1210 from by decide)).trans (hle)))), (am_up_ne (show 1209 ≠ 1005 from by decide)).trans ((am_up_ne (show 1209 ≠ (2 * K.length + 1008) from by omega)).trans ((am_up_ne (show 1209 ≠ 1006 from by decide)).trans ((am_up_ne (show 1209 ≠ 1210 from by decide)).trans (hri)))), (am_up_ne (show 1210 ≠ 1005 from by decide)).trans ((am_up_ne (show 1210 ≠ (2 * K.length + 1008) from by omega)).trans ((am_up_ne (show 1210 ≠ 1006 from by decide)).trans (am_up_eq _ _ _)))⟩
    · have Nc15 := (nI_eq (a := (tok f n a).2.2.1) (b := (tok f n a).2.1 + 1) (by omega) (by omega)).mp c15
      have hA9 : (tok f n a).2.2.1 = (tok f n a).2.1 + 1 := by omega
      refine v_aload_n (am_Dk d_Rd_readVariable (k := 34) rfl) rfl ?_
      refine v_get (am_Dk d_Rd_readVariable (k := 35) rfl) f_Rd_9 m13 rfl ?_
      refine v_aload_n (am_Dk d_Rd_readVariable (k := 36) rfl) rfl ?_
      refine v_get (am_Dk d_Rd_readVariable (k := 37) rfl) f_Rd_24 m13 rfl ?_
      refine v_get (am_Dk d_Rd_readVariable (k := 38) rfl) f_Rd_74 m14 rfl ?_
      have m47 : (am_up M 1210 (.inr (8, [.int (setE (Vn i0)), .long (setN (Vn i0)), .int 0, .int 0]))) 1001 = some (.inr (1, [.ref 1002, .int (nI n)])) := (am_up_ne (show 1001 ≠ 1210 from by decide)).trans (h1)
      have m48 : (am_up M 1210 (.inr (8, [.int (setE (Vn i0)), .long (setN (Vn i0)), .int 0, .int 0]))) 1002 = some (.inl (0, 4096, .inl f)) := (am_up_ne (show 1002 ≠ 1210 from by decide)).trans (h2)
      refine v_callV (rest := []) (As := [.int (nI (tok f n a).2.1)]) (mc' := 0) (ms' := 0) (am_Dk d_Rd_readVariable (k := 39) rfl) c_Rd_189 (Or.inl ⟨_, _, _, _, _, m47, cq_ok1⟩) (t_Tape_at G (d := 0) (i := (tok f n a).2.1) (by omega) m47 m48 (by omega) (by omega)) (by omega) (by omega) (by omega) (by simp [Value.category]) rfl (fun v49 M50 n51 h52 => ?_) (fun _ _ _ h52 => ?_)
      rotate_left
      · exact absurd h52.1 (by simp)
      obtain ⟨h52, e53, e54⟩ := h52
      replace e53 := e53.symm
      replace e54 := e54.symm
      subst e53
      subst e54
      cases h52
      show am_V G _ _ _ _ _ 88 [(1, .ref (Vi i0)), (0, .ref 1005)] [.int (tb f n ((tok f n a).2.1))] (am_up M 1210 (.inr (8, [.int (setE (Vn i0)), .long (setN (Vn i0)), .int 0, .int 0]))) nx 0 0
      refine v_bipush (v := 95) (am_Dk d_Rd_readVariable (k := 40) rfl) (by decide) ?_
      refine v_icmp_ne (tgt := 97) (am_Dk d_Rd_readVariable (k := 41) rfl) (by decide) (fun c55 => ?_) (fun c55 => ?_)
      · have hW : ¬ ((tok f n a).2.2.1 = (tok f n a).2.1 + 1 ∧ tb f n (tok f n a).2.1 = 95) := fun z => c55 z.2
        refine v_iconst (v := 0) (am_Dk d_Rd_readVariable (k := 44) rfl) (by decide) ?_
        refine v_istore_n (L1 := [(2, .int 0), (1, .ref (Vi i0)), (0, .ref 1005)]) (am_Dk d_Rd_readVariable (k := 45) rfl) (by decide) rfl ?_
        refine v_iload_n (am_Dk d_Rd_readVariable (k := 46) rfl) rfl ?_
        refine v_if_ne (tgt := 124) (am_Dk d_Rd_readVariable (k := 47) rfl) (by decide) (fun c56 => ?_) (fun c56 => ?_)
        · exact absurd (by decide) c56
        · have Nc56 := (nI_eq (a := 0) (b := 0) (by omega) (by omega)).mp c56
          refine v_aload_n (am_Dk d_Rd_readVariable (k := 48) rfl) rfl ?_
          refine v_get (am_Dk d_Rd_readVariable (k := 49) rfl) f_Rd_54 m13 rfl ?_
          refine v_aload_n (am_Dk d_Rd_readVariable (k := 50) rfl) rfl ?_
          refine v_get (am_Dk d_Rd_readVariable (k := 51) rfl) f_Rd_24 m13 rfl ?_
          refine v_get (am_Dk d_Rd_readVariable (k := 52) rfl) f_Rd_74 m14 rfl ?_
          refine v_aload_n (am_Dk d_Rd_readVariable (k := 53) rfl) rfl ?_
          refine v_get (am_Dk d_Rd_readVariable (k := 54) rfl) f_Rd_24 m13 rfl ?_
          refine v_get (am_Dk d_Rd_readVariable (k := 55) rfl) f_Rd_170 m14 rfl ?_
          have m57 : (am_up M 1210 (.inr (8, [.int (setE (Vn i0)), .long (setN (Vn i0)), .int 0, .int 0]))) 1210 = some (.inr (8, [.int (setE (Vn i0)), .long (setN (Vn i0)), .int 0, .int 0])) := am_up_eq _ _ _
          refine v_callV (rest := []) (As := [.int (nI (tok f n a).2.1), .int (nI (tok f n a).2.2.1)]) (mc' := 0) (ms' := 0) (am_Dk d_Rd_readVariable (k := 56) rfl) c_Rd_193 (Or.inl ⟨_, _, _, _, _, m57, cq_ok8⟩) (t_Op_nameVariable G (d := 0) (by omega) m57) (by omega) (by omega) (by omega) (by simp [Value.category]) rfl (fun v58 M59 n60 h61 => ?_) (fun _ _ _ h61 => ?_)
          rotate_left
          · exact absurd h61.1 (by simp)
          obtain ⟨h61, e62, e63⟩ := h61
          replace e62 := e62.symm
          replace e63 := e63.symm
          subst e62
          subst e63
          cases h61
          rw [am_uu0 (a := 1210)]
          show am_V G _ _ _ _ _ 124 [(2, .int 0), (1, .ref (Vi i0)), (0, .ref 1005)] [] (am_up M 1210 (.inr (8, [.int (setE (Vn i0)), .long (setN (Vn i0)), .int (nI (tok f n a).2.1), .int (nI (tok f n a).2.2.1)]))) nx 0 0
          refine v_aload_n (am_Dk d_Rd_readVariable (k := 57) rfl) rfl ?_
          have m64 : (am_up M 1210 (.inr (8, [.int (setE (Vn i0)), .long (setN (Vn i0)), .int (nI (tok f n a).2.1), .int (nI (tok f n a).2.2.1)]))) 1005 = some (.inr (5, [.ref 1001, .ref 1003, .ref 1006, .ref 1007, .int (nI (K.length + 1)), .int 1, .int 0, .int (nI sy), .int (-1), .ref ou, .ref 1208, .ref 1209, .ref 1210])) := (am_up_ne (show 1005 ≠ 1210 from by decide)).trans (h5)
          refine v_get (am_Dk d_Rd_readVariable (k := 58) rfl) f_Rd_24 m64 rfl ?_
          have m65 : (am_up M 1210 (.inr (8, [.int (setE (Vn i0)), .long (setN (Vn i0)), .int (nI (tok f n a).2.1), .int (nI (tok f n a).2.2.1)]))) 1001 = some (.inr (1, [.ref 1002, .int (nI n)])) := (am_up_ne (show 1001 ≠ 1210 from by decide)).trans (h1)
          have m66 : (am_up M 1210 (.inr (8, [.int (setE (Vn i0)), .long (setN (Vn i0)), .int (nI (tok f n a).2.1), .int (nI (tok f n a).2.2.1)]))) 1002 = some (.inl (0, 4096, .inl f)) := (am_up_ne (show 1002 ≠ 1210 from by decide)).trans (h2)
          have m67 : (am_up M 1210 (.inr (8, [.int (setE (Vn i0)), .long (setN (Vn i0)), .int (nI (tok f n a).2.1), .int (nI (tok f n a).2.2.1)]))) 1006 = some (.inr (6, [.ref 1001, .ref (26 + (tok f n a).1), .int (nI (tok f n a).2.1), .int (nI (tok f n a).2.2.1), .long nu, .ref ((tok f n a).2.2.2.2), .int nf, .int nt])) := (am_up_ne (show 1006 ≠ 1210 from by decide)).trans (h6)
          refine v_callV (rest := []) (As := []) (mc' := 0) (ms' := 0) (am_Dk d_Rd_readVariable (k := 59) rfl) c_Rd_155 (Or.inl ⟨_, _, _, _, _, m67, cq_ok6⟩) (t_Sg_next G (d := 6) (a := (tok f n a).2.2.1) (by omega) m65 m66 (by omega) (by omega) m67) (by omega) (by omega) (by omega) (by simp [Value.category]) rfl (fun v68 M69 n70 h71 => ?_) (fun _ _ _ h71 => ?_)
          rotate_left
          · exact absurd h71.1 (by simp)
          obtain ⟨h71, e76, nu72, nf73, nt74, e75, hv77⟩ := h71
          replace e75 := e75.symm
          replace e76 := e76.symm
          subst e75
          subst e76
          cases h71
          show am_V G _ _ _ _ _ 131 [(2, .int 0), (1, .ref (Vi i0)), (0, .ref 1005)] [] (am_up (am_up M 1210 (.inr (8, [.int (setE (Vn i0)), .long (setN (Vn i0)), .int (nI (tok f n a).2.1), .int (nI (tok f n a).2.2.1)]))) 1006 (.inr (6, [.ref 1001, .ref (26 + (tok f n ((tok f n a).2.2.1)).1), .int (nI (tok f n ((tok f n a).2.2.1)).2.1), .int (nI (tok f n ((tok f n a).2.2.1)).2.2.1), .long nu72, .ref ((tok f n ((tok f n a).2.2.1)).2.2.2.2), .int nf73, .int nt74]))) nx 0 0
          have tk_h71 := tok_ok f (show (tok f n a).2.2.1 ≤ n from by omega)
          refine v_aload_n (am_Dk d_Rd_readVariable (k := 60) rfl) rfl ?_
          have m78 : (am_up (am_up M 1210 (.inr (8, [.int (setE (Vn i0)), .long (setN (Vn i0)), .int (nI (tok f n a).2.1), .int (nI (tok f n a).2.2.1)]))) 1006 (.inr (6, [.ref 1001, .ref (26 + (tok f n ((tok f n a).2.2.1)).1), .int (nI (tok f n ((tok f n a).2.2.1)).2.1), .int (nI (tok f n ((tok f n a).2.2.1)).2.2.1), .long nu72, .ref ((tok f n ((tok f n a).2.2.1)).2.2.2.2), .int nf73, .int nt74]))) 1005 = some (.inr (5, [.ref 1001, .ref 1003, .ref 1006, .ref 1007, .int (nI (K.length + 1)), .int 1, .int 0, .int (nI sy), .int (-1), .ref ou, .ref 1208, .ref 1209, .ref 1210])) := (am_up_ne (show 1005 ≠ 1006 from by decide)).trans ((am_up_ne (show 1005 ≠ 1210 from by decide)).trans (h5))
          have m79 : (am_up (am_up M 1210 (.inr (8, [.int (setE (Vn i0)), .long (setN (Vn i0)), .int (nI (tok f n a).2.1), .int (nI (tok f n a).2.2.1)]))) 1006 (.inr (6, [.ref 1001, .ref (26 + (tok f n ((tok f n a).2.2.1)).1), .int (nI (tok f n ((tok f n a).2.2.1)).2.1), .int (nI (tok f n ((tok f n a).2.2.1)).2.2.1), .long nu72, .ref ((tok f n ((tok f n a).2.2.1)).2.2.2.2), .int nf73, .int nt74]))) 1007 = some (.inl (4, 100, .inr (.inr (.inr (.inr (ci_arr 100)))))) := (am_up_ne (show 1007 ≠ 1006 from by decide)).trans ((am_up_ne (show 1007 ≠ 1210 from by decide)).trans (h7))
          have m80 : (am_up (am_up M 1210 (.inr (8, [.int (setE (Vn i0)), .long (setN (Vn i0)), .int (nI (tok f n a).2.1), .int (nI (tok f n a).2.2.1)]))) 1006 (.inr (6, [.ref 1001, .ref (26 + (tok f n ((tok f n a).2.2.1)).1), .int (nI (tok f n ((tok f n a).2.2.1)).2.1), .int (nI (tok f n ((tok f n a).2.2.1)).2.2.1), .long nu72, .ref ((tok f n ((tok f n a).2.2.1)).2.2.2.2), .int nf73, .int nt74]))) (2 * K.length + 1008) = some (.inr (7, [.ref (38 + ro), .ref nm, .int mo, .int pr0, .int (nI ar), .ref (2 * K.length + 1009)])) := (am_up_ne (show (2 * K.length + 1008) ≠ 1006 from by omega)).trans ((am_up_ne (show (2 * K.length + 1008) ≠ 1210 from by omega)).trans (ht))
          refine v_callV (rest := []) (As := []) (mc' := 0) (ms' := 0) (am_Dk d_Rd_readVariable (k := 61) rfl) c_Rd_197 (Or.inl ⟨_, _, _, _, _, m78, cq_ok5⟩) (t_Rd_haveSimpleOperand G (d := 1) (j := K.length) (dp := 0) (by omega) (by omega) m78 m79 m80) (by omega) (by omega) (by omega) (by simp [Value.category]) rfl (fun v81 M82 n83 h84 => ?_) (fun _ _ _ h84 => ?_)
          rotate_left
          · exact absurd h84.1 (by simp)
          obtain ⟨h84, e85, e86⟩ := h84
          replace e85 := e85.symm
          replace e86 := e86.symm
          subst e85
          subst e86
          cases h84
          rw [nI_1]
          show am_V G _ _ _ _ _ 135 [(2, .int 0), (1, .ref (Vi i0)), (0, .ref 1005)] [] (am_up (am_up (am_up (am_up M 1210 (.inr (8, [.int (setE (Vn i0)), .long (setN (Vn i0)), .int (nI (tok f n a).2.1), .int (nI (tok f n a).2.2.1)]))) 1006 (.inr (6, [.ref 1001, .ref (26 + (tok f n ((tok f n a).2.2.1)).1), .int (nI (tok f n ((tok f n a).2.2.1)).2.1), .int (nI (tok f n ((tok f n a).2.2.1)).2.2.1), .long nu72, .ref ((tok f n ((tok f n a).2.2.1)).2.2.2.2), .int nf73, .int nt74]))) (2 * K.length + 1008) (.inr (7, [.ref (38 + ro), .ref nm, .int mo, .int 0, .int (nI ar), .ref (2 * K.length + 1009)]))) 1005 (.inr (5, [.ref 1001, .ref 1003, .ref 1006, .ref 1007, .int (nI (K.length + 1)), .int 0, .int 0, .int (nI (sy + 1)), .int (-1), .ref ou, .ref 1208, .ref 1209, .ref 1210]))) nx 0 0
          have hE : c_var f n (cl_lu c Vl Vg Vn f) ((ro, nm, mo, ar, (fe, fv, fa, fb)) :: K, true, false, sy, -1, ou, pr, a, (le, lv, l0, l1), (re, rv, r0, r1), (e, v, a0, b0)) = ((ro, nm, mo, ar, (fe, fv, fa, fb)) :: K, false, false, sy + 1, -1, ou, 0, ((tok f n a).2.2.1), (le, lv, l0, l1), (re, rv, r0, r1), ((setE (Vn i0)), (setN (Vn i0)), (nI (tok f n a).2.1), (nI (tok f n a).2.2.1))) := by
            rw [c_var, c_vo, hlu, if_neg hW, if_neg hW, c_nxt, c_opd]
            try rfl
          refine v_return (am_Dk d_Rd_readVariable (k := 62) rfl) rfl (by omega) (by omega) ⟨rfl, rfl, ?_, fun i hi => (am_up_ne (show i ≠ 1005 from by omega)).trans ((am_up_ne (show i ≠ (2 * K.length + 1008) from by omega)).trans ((am_up_ne (show i ≠ 1006 from by omega)).trans ((am_up_ne (show i ≠ 1210 from by omega)).trans (rfl))))⟩
          rw [hE]
          exact ⟨am_up_eq _ _ _, ⟨_, _, _, (am_up_ne (show 1006 ≠ 1005 from by decide)).trans ((am_up_ne (show 1006 ≠ (2 * K.length + 1008) from by omega)).trans (am_up_eq _ _ _)), hv77⟩, (am_up_ne (show 1007 ≠ 1005 from by decide)).trans ((am_up_ne (show 1007 ≠ (2 * K.length + 1008) from by omega)).trans ((am_up_ne (show 1007 ≠ 1006 from by decide)).trans ((am_up_ne (show 1007 ≠ 1210 from by decide)).trans (h7)))), fun _ => (am_up_ne (show (2 * K.length + 1008) ≠ 1005 from by omega)).trans (am_up_eq _ _ _), ⟨⟨_, (am_up_ne (show (2 * K.length + 1008) ≠ 1005 from by omega)).trans (am_up_eq _ _ _)⟩, (am_up_ne (show (2 * K.length + 1009) ≠ 1005 from by omega)).trans ((am_up_ne (show (2 * K.length + 1009) ≠ (2 * K.length + 1008) from by omega)).trans ((am_up_ne (show (2 * K.length + 1009) ≠ 1006 from by omega)).trans ((am_up_ne (show (2 * K.length + 1009) ≠ 1210 from by omega)).trans (hf)))), cs_Kup hK (fun i z1 z2 => (am_up_ne (show i ≠ 1005 from by omega)).trans ((am_up_ne (show i ≠ (2 * K.length + 1008) from by omega)).trans ((am_up_ne (show i ≠ 1006 from by omega)).trans ((am_up_ne (show i ≠ 1210 from by omega)).trans (rfl)))))⟩, cs_Xup hX (fun i (z1 : 2 * (K.length + 1) + 1008 ≤ i) z2 => (am_up_ne (show i ≠ 1005 from by omega)).trans ((am_up_ne (show i ≠ (2 * K.length + 1008) from by omega)).trans ((am_up_ne (show i ≠ 1006 from by omega)).trans ((am_up_ne (show i ≠ 1210 from by omega)).trans (rfl))))), (am_up_ne (show 1208 ≠ 1005 from by decide)).trans ((am_up_ne (show 1208 ≠ (2 * K.length + 1008) from by omega)).trans ((am_up_ne (show 1208 ≠ 1006 from by decide)).trans ((am_up_ne (show 1208 ≠ 1210 from by decide)).trans (hle)))), (am_up_ne (show 1209 ≠ 1005 from by decide)).trans ((am_up_ne (show 1209 ≠ (2 * K.length + 1008) from by omega)).trans ((am_up_ne (show 1209 ≠ 1006 from by decide)).trans ((am_up_ne (show 1209 ≠ 1210 from by decide)).trans (hri)))), (am_up_ne (show 1210 ≠ 1005 from by decide)).trans ((am_up_ne (show 1210 ≠ (2 * K.length + 1008) from by omega)).trans ((am_up_ne (show 1210 ≠ 1006 from by decide)).trans (am_up_eq _ _ _)))⟩
      · have hW : (tok f n a).2.2.1 = (tok f n a).2.1 + 1 ∧ tb f n (tok f n a).2.1 = 95 := ⟨hA9, c55⟩
        refine v_iconst (v := 1) (am_Dk d_Rd_readVariable (k := 42) rfl) (by decide) ?_
        refine v_goto (tgt := 98) (am_Dk d_Rd_readVariable (k := 43) rfl) (by decide) ?_
        refine v_istore_n (L1 := [(2, .int 1), (1, .ref (Vi i0)), (0, .ref 1005)]) (am_Dk d_Rd_readVariable (k := 45) rfl) (by decide) rfl ?_
        refine v_iload_n (am_Dk d_Rd_readVariable (k := 46) rfl) rfl ?_
        refine v_if_ne (tgt := 124) (am_Dk d_Rd_readVariable (k := 47) rfl) (by decide) (fun c87 => ?_) (fun c87 => ?_)
        · have Nc87 : ¬ 1 = 0 := fun z => c87 ((nI_eq (a := 1) (b := 0) (by omega) (by omega)).mpr z)
          refine v_aload_n (am_Dk d_Rd_readVariable (k := 57) rfl) rfl ?_
          refine v_get (am_Dk d_Rd_readVariable (k := 58) rfl) f_Rd_24 m13 rfl ?_
          refine v_callV (rest := []) (As := []) (mc' := 0) (ms' := 0) (am_Dk d_Rd_readVariable (k := 59) rfl) c_Rd_155 (Or.inl ⟨_, _, _, _, _, m14, cq_ok6⟩) (t_Sg_next G (d := 6) (a := (tok f n a).2.2.1) (by omega) m47 m48 (by omega) (by omega) m14) (by omega) (by omega) (by omega) (by simp [Value.category]) rfl (fun v88 M89 n90 h91 => ?_) (fun _ _ _ h91 => ?_)
          rotate_left
          · exact absurd h91.1 (by simp)
          obtain ⟨h91, e96, nu92, nf93, nt94, e95, hv97⟩ := h91
          replace e95 := e95.symm
          replace e96 := e96.symm
          subst e95
          subst e96
          cases h91
          show am_V G _ _ _ _ _ 131 [(2, .int 1), (1, .ref (Vi i0)), (0, .ref 1005)] [] (am_up (am_up M 1210 (.inr (8, [.int (setE (Vn i0)), .long (setN (Vn i0)), .int 0, .int 0]))) 1006 (.inr (6, [.ref 1001, .ref (26 + (tok f n ((tok f n a).2.2.1)).1), .int (nI (tok f n ((tok f n a).2.2.1)).2.1), .int (nI (tok f n ((tok f n a).2.2.1)).2.2.1), .long nu92, .ref ((tok f n ((tok f n a).2.2.1)).2.2.2.2), .int nf93, .int nt94]))) nx 0 0
          have tk_h91 := tok_ok f (show (tok f n a).2.2.1 ≤ n from by omega)
          refine v_aload_n (am_Dk d_Rd_readVariable (k := 60) rfl) rfl ?_
          have m98 : (am_up (am_up M 1210 (.inr (8, [.int (setE (Vn i0)), .long (setN (Vn i0)), .int 0, .int 0]))) 1006 (.inr (6, [.ref 1001, .ref (26 + (tok f n ((tok f n a).2.2.1)).1), .int (nI (tok f n ((tok f n a).2.2.1)).2.1), .int (nI (tok f n ((tok f n a).2.2.1)).2.2.1), .long nu92, .ref ((tok f n ((tok f n a).2.2.1)).2.2.2.2), .int nf93, .int nt94]))) 1005 = some (.inr (5, [.ref 1001, .ref 1003, .ref 1006, .ref 1007, .int (nI (K.length + 1)), .int 1, .int 0, .int (nI sy), .int (-1), .ref ou, .ref 1208, .ref 1209, .ref 1210])) := (am_up_ne (show 1005 ≠ 1006 from by decide)).trans ((am_up_ne (show 1005 ≠ 1210 from by decide)).trans (h5))
          have m99 : (am_up (am_up M 1210 (.inr (8, [.int (setE (Vn i0)), .long (setN (Vn i0)), .int 0, .int 0]))) 1006 (.inr (6, [.ref 1001, .ref (26 + (tok f n ((tok f n a).2.2.1)).1), .int (nI (tok f n ((tok f n a).2.2.1)).2.1), .int (nI (tok f n ((tok f n a).2.2.1)).2.2.1), .long nu92, .ref ((tok f n ((tok f n a).2.2.1)).2.2.2.2), .int nf93, .int nt94]))) 1007 = some (.inl (4, 100, .inr (.inr (.inr (.inr (ci_arr 100)))))) := (am_up_ne (show 1007 ≠ 1006 from by decide)).trans ((am_up_ne (show 1007 ≠ 1210 from by decide)).trans (h7))
          have m100 : (am_up (am_up M 1210 (.inr (8, [.int (setE (Vn i0)), .long (setN (Vn i0)), .int 0, .int 0]))) 1006 (.inr (6, [.ref 1001, .ref (26 + (tok f n ((tok f n a).2.2.1)).1), .int (nI (tok f n ((tok f n a).2.2.1)).2.1), .int (nI (tok f n ((tok f n a).2.2.1)).2.2.1), .long nu92, .ref ((tok f n ((tok f n a).2.2.1)).2.2.2.2), .int nf93, .int nt94]))) (2 * K.length + 1008) = some (.inr (7, [.ref (38 + ro), .ref nm, .int mo, .int pr0, .int (nI ar), .ref (2 * K.length + 1009)])) := (am_up_ne (show (2 * K.length + 1008) ≠ 1006 from by omega)).trans ((am_up_ne (show (2 * K.length + 1008) ≠ 1210 from by omega)).trans (ht))
          refine v_callV (rest := []) (As := []) (mc' := 0) (ms' := 0) (am_Dk d_Rd_readVariable (k := 61) rfl) c_Rd_197 (Or.inl ⟨_, _, _, _, _, m98, cq_ok5⟩) (t_Rd_haveSimpleOperand G (d := 1) (j := K.length) (dp := 0) (by omega) (by omega) m98 m99 m100) (by omega) (by omega) (by omega) (by simp [Value.category]) rfl (fun v101 M102 n103 h104 => ?_) (fun _ _ _ h104 => ?_)
          rotate_left
          · exact absurd h104.1 (by simp)
          obtain ⟨h104, e105, e106⟩ := h104
          replace e105 := e105.symm
          replace e106 := e106.symm
          subst e105
          subst e106
          cases h104
          rw [nI_1]
          show am_V G _ _ _ _ _ 135 [(2, .int 1), (1, .ref (Vi i0)), (0, .ref 1005)] [] (am_up (am_up (am_up (am_up M 1210 (.inr (8, [.int (setE (Vn i0)), .long (setN (Vn i0)), .int 0, .int 0]))) 1006 (.inr (6, [.ref 1001, .ref (26 + (tok f n ((tok f n a).2.2.1)).1), .int (nI (tok f n ((tok f n a).2.2.1)).2.1), .int (nI (tok f n ((tok f n a).2.2.1)).2.2.1), .long nu92, .ref ((tok f n ((tok f n a).2.2.1)).2.2.2.2), .int nf93, .int nt94]))) (2 * K.length + 1008) (.inr (7, [.ref (38 + ro), .ref nm, .int mo, .int 0, .int (nI ar), .ref (2 * K.length + 1009)]))) 1005 (.inr (5, [.ref 1001, .ref 1003, .ref 1006, .ref 1007, .int (nI (K.length + 1)), .int 0, .int 0, .int (nI (sy + 1)), .int (-1), .ref ou, .ref 1208, .ref 1209, .ref 1210]))) nx 0 0
          have hE : c_var f n (cl_lu c Vl Vg Vn f) ((ro, nm, mo, ar, (fe, fv, fa, fb)) :: K, true, false, sy, -1, ou, pr, a, (le, lv, l0, l1), (re, rv, r0, r1), (e, v, a0, b0)) = ((ro, nm, mo, ar, (fe, fv, fa, fb)) :: K, false, false, sy + 1, -1, ou, 0, ((tok f n a).2.2.1), (le, lv, l0, l1), (re, rv, r0, r1), ((setE (Vn i0)), (setN (Vn i0)), 0, 0)) := by
            rw [c_var, c_vo, hlu, if_pos hW, if_pos hW, c_nxt, c_opd]
            try rfl
          refine v_return (am_Dk d_Rd_readVariable (k := 62) rfl) rfl (by omega) (by omega) ⟨rfl, rfl, ?_, fun i hi => (am_up_ne (show i ≠ 1005 from by omega)).trans ((am_up_ne (show i ≠ (2 * K.length + 1008) from by omega)).trans ((am_up_ne (show i ≠ 1006 from by omega)).trans ((am_up_ne (show i ≠ 1210 from by omega)).trans (rfl))))⟩
          rw [hE]
          exact ⟨am_up_eq _ _ _, ⟨_, _, _, (am_up_ne (show 1006 ≠ 1005 from by decide)).trans ((am_up_ne (show 1006 ≠ (2 * K.length + 1008) from by omega)).trans (am_up_eq _ _ _)), hv97⟩, (am_up_ne (show 1007 ≠ 1005 from by decide)).trans ((am_up_ne (show 1007 ≠ (2 * K.length + 1008) from by omega)).trans ((am_up_ne (show 1007 ≠ 1006 from by decide)).trans ((am_up_ne (show 1007 ≠ 1210 from by decide)).trans (h7)))), fun _ => (am_up_ne (show (2 * K.length + 1008) ≠ 1005 from by omega)).trans (am_up_eq _ _ _), ⟨⟨_, (am_up_ne (show (2 * K.length + 1008) ≠ 1005 from by omega)).trans (am_up_eq _ _ _)⟩, (am_up_ne (show (2 * K.length + 1009) ≠ 1005 from by omega)).trans ((am_up_ne (show (2 * K.length + 1009) ≠ (2 * K.length + 1008) from by omega)).trans ((am_up_ne (show (2 * K.length + 1009) ≠ 1006 from by omega)).trans ((am_up_ne (show (2 * K.length + 1009) ≠ 1210 from by omega)).trans (hf)))), cs_Kup hK (fun i z1 z2 => (am_up_ne (show i ≠ 1005 from by omega)).trans ((am_up_ne (show i ≠ (2 * K.length + 1008) from by omega)).trans ((am_up_ne (show i ≠ 1006 from by omega)).trans ((am_up_ne (show i ≠ 1210 from by omega)).trans (rfl)))))⟩, cs_Xup hX (fun i (z1 : 2 * (K.length + 1) + 1008 ≤ i) z2 => (am_up_ne (show i ≠ 1005 from by omega)).trans ((am_up_ne (show i ≠ (2 * K.length + 1008) from by omega)).trans ((am_up_ne (show i ≠ 1006 from by omega)).trans ((am_up_ne (show i ≠ 1210 from by omega)).trans (rfl))))), (am_up_ne (show 1208 ≠ 1005 from by decide)).trans ((am_up_ne (show 1208 ≠ (2 * K.length + 1008) from by omega)).trans ((am_up_ne (show 1208 ≠ 1006 from by decide)).trans ((am_up_ne (show 1208 ≠ 1210 from by decide)).trans (hle)))), (am_up_ne (show 1209 ≠ 1005 from by decide)).trans ((am_up_ne (show 1209 ≠ (2 * K.length + 1008) from by omega)).trans ((am_up_ne (show 1209 ≠ 1006 from by decide)).trans ((am_up_ne (show 1209 ≠ 1210 from by decide)).trans (hri)))), (am_up_ne (show 1210 ≠ 1005 from by decide)).trans ((am_up_ne (show 1210 ≠ (2 * K.length + 1008) from by omega)).trans ((am_up_ne (show 1210 ≠ 1006 from by decide)).trans (am_up_eq _ _ _)))⟩
        · exact absurd c87 (by decide)
set_option maxRecDepth 20000 in
theorem t_Rd_canTermBegin (G : am_G) {d nx : Nat} (hd : 1 ≤ d) {M : am_M} {f : Nat → Int32} {n : Nat} (h1 : M 1001 = some (.inr (1, [.ref 1002, .int (nI n)]))) (h2 : M 1002 = some (.inl (0, 4096, .inl f))) (hn : n ≤ 4096) {ou a : Nat} {dp du dn sy pc9 : Int32} (ha : a ≤ n) (h5 : M 1005 = some (.inr (5, [.ref 1001, .ref 1003, .ref 1006, .ref 1007, .int dp, .int du, .int dn, .int sy, .int pc9, .ref ou, .ref 1208, .ref 1209, .ref 1210]))) {nu : Int64} {nf nt : Int32} (h6 : M 1006 = some (.inr (6, [.ref 1001, .ref (26 + (tok f n a).1), .int (nI (tok f n a).2.1), .int (nI (tok f n a).2.2.1), .long nu, .ref ((tok f n a).2.2.2.2), .int nf, .int nt]))) : am_Tr G m_Rd_canTermBegin d 0 0 [.ref 1005] M nx (fun r M1 nx1 => r = .inl (some (.int (bi (c_can (tok f n a))))) ∧ M1 = M ∧ nx1 = nx) := by
  refine am_TrOf (by decide) (Nat.le_of_ble_eq_true rfl) ?_
  show am_V G _ _ _ _ _ 0 [(0, .ref 1005)] [] M nx 0 0
  have tk0 := tok_ok f ha
  refine v_gets (v := .ref 52) (am_Dk d_Rd_canTermBegin (k := 0) rfl) s_Rd_134 (by decide +kernel) ?_
  refine v_aload_n (am_Dk d_Rd_canTermBegin (k := 1) rfl) rfl ?_
  refine v_get (am_Dk d_Rd_canTermBegin (k := 2) rfl) f_Rd_24 h5 rfl ?_
  refine v_get (am_Dk d_Rd_canTermBegin (k := 3) rfl) f_Rd_91 h6 rfl ?_
  refine v_callU (rest := [.ref 52]) (As := []) (mc' := 0) (ms' := 0) (am_Dk d_Rd_canTermBegin (k := 4) rfl) c_Rd_140 (Or.inr (kd_o (tok f n a).1 (by omega))) (t_jE_ordinal G (d := 0) (k := 26 + (tok f n a).1) (v := nI (tok f n a).1) (by omega) (en_oK _ (by omega))) (by omega) (by omega) (by omega) (by simp [Value.category]) rfl (fun v2 M9 n9 h1 => ?_) (fun _ _ _ h1 => ?_)
  rotate_left
  · exact absurd h1.1 (by simp)
  obtain ⟨h1, e1, e2⟩ := h1
  replace e1 := e1.symm
  replace e2 := e2.symm
  subst e1
  subst e2
  cases h1
  show am_V G _ _ _ _ _ 13 [(0, .ref 1005)] [.int (nI (tok f n a).1), .ref 52] M nx 0 0
  refine v_tiald (v := .int (swK (tok f n a).1)) (am_Dk d_Rd_canTermBegin (k := 5) rfl) (List.mem_of_getElem? (i := 2) rfl) (show vp_in _ 12 from vp_in_nI (by omega) (by decide)) (by rw [nI_clamp (by omega)]; exact swK_at _ (by omega)) ?_
  by_cases K2_s : (tok f n a).1 = 2
  · refine v_tableIn (tgt := 52) (off := 38) (am_Dk d_Rd_canTermBegin (k := 6) rfl) (by rw [K2_s]; decide) (by rw [K2_s]; decide) (by rw [K2_s]; decide) (by decide) ?_
    refine v_aload_n (am_Dk d_Rd_canTermBegin (k := 7) rfl) rfl ?_
    refine v_get (am_Dk d_Rd_canTermBegin (k := 8) rfl) f_Rd_24 h5 rfl ?_
    refine v_get (am_Dk d_Rd_canTermBegin (k := 9) rfl) f_Rd_200 h6 rfl ?_
    refine v_getK (i := (tok f n a).2.2.2.2) (v := .int (kn_pf ((tok f n a).2.2.2.2))) (am_Dk d_Rd_canTermBegin (k := 10) rfl) g_Rd_213 (Or.inl rfl) (kn_pf_k _ (by omega)) ?_
    refine v_if_gt (tgt := 78) (am_Dk d_Rd_canTermBegin (k := 11) rfl) (by decide) (fun c3 => ?_) (fun c3 => ?_)
    · refine v_iconst (v := 1) (am_Dk d_Rd_canTermBegin (k := 17) rfl) (by decide) ?_
      refine v_goto (tgt := 83) (am_Dk d_Rd_canTermBegin (k := 18) rfl) (by decide) ?_
      exact v_ireturn (am_Dk d_Rd_canTermBegin (k := 20) rfl) rfl rfl (by omega) (by omega) ⟨by rw [show c_can (tok f n a) = true from by rw [c_can, if_pos K2_s]; exact decide_eq_true (by first | exact Or.inl (by assumption) | exact Or.inr (by assumption))]; rfl, rfl, rfl⟩
    · refine v_aload_n (am_Dk d_Rd_canTermBegin (k := 12) rfl) rfl ?_
      refine v_get (am_Dk d_Rd_canTermBegin (k := 13) rfl) f_Rd_24 h5 rfl ?_
      refine v_get (am_Dk d_Rd_canTermBegin (k := 14) rfl) f_Rd_200 h6 rfl ?_
      refine v_getK (i := (tok f n a).2.2.2.2) (v := .int (kn_inf ((tok f n a).2.2.2.2))) (am_Dk d_Rd_canTermBegin (k := 15) rfl) g_Rd_223 (Or.inl rfl) (kn_inf_k _ (by omega)) ?_
      refine v_if_ne (tgt := 82) (am_Dk d_Rd_canTermBegin (k := 16) rfl) (by decide) (fun c4 => ?_) (fun c4 => ?_)
      · refine v_iconst (v := 0) (am_Dk d_Rd_canTermBegin (k := 19) rfl) (by decide) ?_
        exact v_ireturn (am_Dk d_Rd_canTermBegin (k := 20) rfl) rfl rfl (by omega) (by omega) ⟨by rw [show c_can (tok f n a) = false from by rw [c_can, if_pos K2_s]; exact decide_eq_false (fun z => z.elim (by assumption) (by assumption))]; rfl, rfl, rfl⟩
      · refine v_iconst (v := 1) (am_Dk d_Rd_canTermBegin (k := 17) rfl) (by decide) ?_
        refine v_goto (tgt := 83) (am_Dk d_Rd_canTermBegin (k := 18) rfl) (by decide) ?_
        exact v_ireturn (am_Dk d_Rd_canTermBegin (k := 20) rfl) rfl rfl (by omega) (by omega) ⟨by rw [show c_can (tok f n a) = true from by rw [c_can, if_pos K2_s]; exact decide_eq_true (by first | exact Or.inl (by assumption) | exact Or.inr (by assumption))]; rfl, rfl, rfl⟩
  by_cases K4_s : (tok f n a).1 = 4
  · refine v_tableIn (tgt := 84) (off := 70) (am_Dk d_Rd_canTermBegin (k := 6) rfl) (by rw [K4_s]; decide) (by rw [K4_s]; decide) (by rw [K4_s]; decide) (by decide) ?_
    refine v_iconst (v := 0) (am_Dk d_Rd_canTermBegin (k := 21) rfl) (by decide) ?_
    exact v_ireturn (am_Dk d_Rd_canTermBegin (k := 22) rfl) rfl rfl (by omega) (by omega) ⟨by rw [show c_can (tok f n a) = false from by rw [c_can, if_neg K2_s]; exact decide_eq_false (by omega)]; rfl, rfl, rfl⟩
  by_cases K6_s : (tok f n a).1 = 6
  · refine v_tableIn (tgt := 84) (off := 70) (am_Dk d_Rd_canTermBegin (k := 6) rfl) (by rw [K6_s]; decide) (by rw [K6_s]; decide) (by rw [K6_s]; decide) (by decide) ?_
    refine v_iconst (v := 0) (am_Dk d_Rd_canTermBegin (k := 21) rfl) (by decide) ?_
    exact v_ireturn (am_Dk d_Rd_canTermBegin (k := 22) rfl) rfl rfl (by omega) (by omega) ⟨by rw [show c_can (tok f n a) = false from by rw [c_can, if_neg K2_s]; exact decide_eq_false (by omega)]; rfl, rfl, rfl⟩
  by_cases K7_s : (tok f n a).1 = 7
  · refine v_tableIn (tgt := 84) (off := 70) (am_Dk d_Rd_canTermBegin (k := 6) rfl) (by rw [K7_s]; decide) (by rw [K7_s]; decide) (by rw [K7_s]; decide) (by decide) ?_
    refine v_iconst (v := 0) (am_Dk d_Rd_canTermBegin (k := 21) rfl) (by decide) ?_
    exact v_ireturn (am_Dk d_Rd_canTermBegin (k := 22) rfl) rfl rfl (by omega) (by omega) ⟨by rw [show c_can (tok f n a) = false from by rw [c_can, if_neg K2_s]; exact decide_eq_false (by omega)]; rfl, rfl, rfl⟩
  by_cases K8_s : (tok f n a).1 = 8
  · refine v_tableIn (tgt := 84) (off := 70) (am_Dk d_Rd_canTermBegin (k := 6) rfl) (by rw [K8_s]; decide) (by rw [K8_s]; decide) (by rw [K8_s]; decide) (by decide) ?_
    refine v_iconst (v := 0) (am_Dk d_Rd_canTermBegin (k := 21) rfl) (by decide) ?_
    exact v_ireturn (am_Dk d_Rd_canTermBegin (k := 22) rfl) rfl rfl (by omega) (by omega) ⟨by rw [show c_can (tok f n a) = false from by rw [c_can, if_neg K2_s]; exact decide_eq_false (by omega)]; rfl, rfl, rfl⟩
  by_cases K9_s : (tok f n a).1 = 9
  · refine v_tableIn (tgt := 84) (off := 70) (am_Dk d_Rd_canTermBegin (k := 6) rfl) (by rw [K9_s]; decide) (by rw [K9_s]; decide) (by rw [K9_s]; decide) (by decide) ?_
    refine v_iconst (v := 0) (am_Dk d_Rd_canTermBegin (k := 21) rfl) (by decide) ?_
    exact v_ireturn (am_Dk d_Rd_canTermBegin (k := 22) rfl) rfl rfl (by omega) (by omega) ⟨by rw [show c_can (tok f n a) = false from by rw [c_can, if_neg K2_s]; exact decide_eq_false (by omega)]; rfl, rfl, rfl⟩
  refine v_tableOut (tgt := 86) (am_Dk d_Rd_canTermBegin (k := 6) rfl) (swK_o2 _ (by omega) K2_s K4_s K6_s K7_s K8_s K9_s) (by decide) ?_
  refine v_iconst (v := 1) (am_Dk d_Rd_canTermBegin (k := 23) rfl) (by decide) ?_
  exact v_ireturn (am_Dk d_Rd_canTermBegin (k := 24) rfl) rfl rfl (by omega) (by omega) ⟨by rw [show c_can (tok f n a) = true from by rw [c_can, if_neg K2_s]; exact decide_eq_true (by omega)]; rfl, rfl, rfl⟩
set_option maxRecDepth 20000 in
theorem t_Rd_readOperand (G : am_G) {d nx : Nat} (hd : 8 ≤ d) {M : am_M} {f : Nat → Int32} {n : Nat} (h1 : M 1001 = some (.inr (1, [.ref 1002, .int (nI n)]))) (h2 : M 1002 = some (.inl (0, 4096, .inl f))) (hn : n ≤ 4096) {K : List Frm} {ro nm ar sy ou a : Nat} {mo pr fa fb fe l0 l1 le r0 r1 re a0 b0 e : Int32} {fv lv rv v : Int64} (hl : K.length < 100) (hnm : nm < 26) (ha : a ≤ n) {c ed cap : Nat} {Vi Vb Vl : Nat → Nat} {Vg : Nat → Nat → Int32} {Vn : Nat → Int64} {R : Nat → Option Nat} {mcn : Int32} (hV : vs M c Vi Vb Vl Vg Vn ed cap R mcn) (hcs : cs f n M ((ro, nm, mo, ar, (fe, fv, fa, fb)) :: K, true, false, sy, -1, ou, pr, a, (le, lv, l0, l1), (re, rv, r0, r1), (e, v, a0, b0))) : am_Tr G m_Rd_readOperand d 0 0 [.ref 1005] M nx (fun r M1 nx1 => r = .inl none ∧ nx1 = nx ∧ cs f n M1 (c_rop f n (cl_lu c Vl Vg Vn f) ((ro, nm, mo, ar, (fe, fv, fa, fb)) :: K, true, false, sy, -1, ou, pr, a, (le, lv, l0, l1), (re, rv, r0, r1), (e, v, a0, b0))) ∧ cs_fr M M1) := by
  refine am_TrOf (by decide) (Nat.le_of_ble_eq_true rfl) ?_
  show am_V G _ _ _ _ _ 0 [(0, .ref 1005)] [] M nx 0 0
  obtain ⟨h5, ⟨nu, nf, nt, h6, hnu⟩, h7, qT, ⟨⟨pr0, ht⟩, hf, hK⟩, hX, hle, hri, hla⟩ := hcs
  replace h5 : M 1005 = some (.inr (5, [.ref 1001, .ref 1003, .ref 1006, .ref 1007, .int (nI (K.length + 1)), .int 1, .int 0, .int (nI sy), .int (-1), .ref ou, .ref 1208, .ref 1209, .ref 1210])) := h5
  replace ht : M (2 * K.length + 1008) = some (.inr (7, [.ref (38 + ro), .ref nm, .int mo, .int pr0, .int (nI ar), .ref (2 * K.length + 1009)])) := ht
  replace hf : M (2 * K.length + 1009) = some (.inr (8, [.int fe, .long fv, .int fa, .int fb])) := hf
  replace hle : M 1208 = some (.inr (8, [.int le, .long lv, .int l0, .int l1])) := hle
  replace hri : M 1209 = some (.inr (8, [.int re, .long rv, .int r0, .int r1])) := hri
  replace hla : M 1210 = some (.inr (8, [.int e, .long v, .int a0, .int b0])) := hla
  have tk0 := tok_ok f ha
  refine v_gets (v := .ref 52) (am_Dk d_Rd_readOperand (k := 0) rfl) s_Rd_134 (by decide +kernel) ?_
  refine v_aload_n (am_Dk d_Rd_readOperand (k := 1) rfl) rfl ?_
  refine v_get (am_Dk d_Rd_readOperand (k := 2) rfl) f_Rd_24 h5 rfl ?_
  refine v_get (am_Dk d_Rd_readOperand (k := 3) rfl) f_Rd_91 h6 rfl ?_
  refine v_callU (rest := [.ref 52]) (As := []) (mc' := 0) (ms' := 0) (am_Dk d_Rd_readOperand (k := 4) rfl) c_Rd_140 (Or.inr (kd_o (tok f n a).1 (by omega))) (t_jE_ordinal G (d := 0) (k := 26 + (tok f n a).1) (v := nI (tok f n a).1) (by omega) (en_oK _ (by omega))) (by omega) (by omega) (by omega) (by simp [Value.category]) rfl (fun v2 M9 n9 h1 => ?_) (fun _ _ _ h1 => ?_)
  rotate_left
  · exact absurd h1.1 (by simp)
  obtain ⟨h1, e1, e2⟩ := h1
  replace e1 := e1.symm
  replace e2 := e2.symm
  subst e1
  subst e2
  cases h1
  show am_V G _ _ _ _ _ 13 [(0, .ref 1005)] [.int (nI (tok f n a).1), .ref 52] M nx 0 0
  refine v_tiald (v := .int (swK (tok f n a).1)) (am_Dk d_Rd_readOperand (k := 5) rfl) (List.mem_of_getElem? (i := 2) rfl) (show vp_in _ 12 from vp_in_nI (by omega) (by decide)) (by rw [nI_clamp (by omega)]; exact swK_at _ (by omega)) ?_
  by_cases K0_s : (tok f n a).1 = 0
  · refine v_tableIn (tgt := 44) (off := 30) (am_Dk d_Rd_readOperand (k := 6) rfl) (by rw [K0_s]; decide) (by rw [K0_s]; decide) (by rw [K0_s]; decide) (by decide) ?_
    refine v_aload_n (am_Dk d_Rd_readOperand (k := 7) rfl) rfl ?_
    refine v_callV (rest := []) (As := []) (mc' := 0) (ms' := 0) (am_Dk d_Rd_readOperand (k := 8) rfl) c_Rd_144 (Or.inl ⟨_, _, _, _, _, h5, cq_ok5⟩) (t_Rd_readVariable G (d := 7) (by omega) h1 h2 hn (by omega) hnm (by omega) hV (show cs f n M ((ro, nm, mo, ar, (fe, fv, fa, fb)) :: K, true, false, sy, -1, ou, pr, a, (le, lv, l0, l1), (re, rv, r0, r1), (e, v, a0, b0)) from ⟨h5, ⟨_, _, _, h6, hnu⟩, h7, fun z => absurd z (by decide), ⟨⟨_, ht⟩, hf, cs_Kup hK (fun i z1 z2 => rfl)⟩, cs_Xup hX (fun i (z1 : 2 * (K.length + 1) + 1008 ≤ i) z2 => rfl), hle, hri, hla⟩)) (by omega) (by omega) (by omega) (by simp [Value.category]) rfl (fun v3 M4 n5 h6 => ?_) (fun _ _ _ h6 => ?_)
    rotate_left
    · exact absurd h6.1 (by simp)
    obtain ⟨h6, e9, hc7, hf8⟩ := h6
    replace e9 := e9.symm
    subst e9
    cases h6
    show am_V G _ _ _ _ _ 48 [(0, .ref 1005)] [] M4 nx 0 0
    refine v_goto (tgt := 115) (am_Dk d_Rd_readOperand (k := 9) rfl) (by decide) ?_
    have hE : c_rop f n (cl_lu c Vl Vg Vn f) ((ro, nm, mo, ar, (fe, fv, fa, fb)) :: K, true, false, sy, -1, ou, pr, a, (le, lv, l0, l1), (re, rv, r0, r1), (e, v, a0, b0)) = c_var f n (cl_lu c Vl Vg Vn f) ((ro, nm, mo, ar, (fe, fv, fa, fb)) :: K, true, false, sy, -1, ou, pr, a, (le, lv, l0, l1), (re, rv, r0, r1), (e, v, a0, b0)) := by
      rw [c_rop, if_pos K0_s]
    refine v_return (am_Dk d_Rd_readOperand (k := 36) rfl) rfl (by omega) (by omega) ⟨rfl, rfl, ?_, fun i hi => (hf8 i hi).trans (rfl)⟩
    rw [hE]
    exact hc7
  by_cases K1_s : (tok f n a).1 = 1
  · refine v_tableIn (tgt := 51) (off := 37) (am_Dk d_Rd_readOperand (k := 6) rfl) (by rw [K1_s]; decide) (by rw [K1_s]; decide) (by rw [K1_s]; decide) (by decide) ?_
    refine v_aload_n (am_Dk d_Rd_readOperand (k := 10) rfl) rfl ?_
    refine v_aload_n (am_Dk d_Rd_readOperand (k := 11) rfl) rfl ?_
    refine v_get (am_Dk d_Rd_readOperand (k := 12) rfl) f_Rd_24 h5 rfl ?_
    refine v_get (am_Dk d_Rd_readOperand (k := 13) rfl) f_Rd_147 h6 rfl ?_
    rw [show nu = (tok f n a).2.2.2.1 from hnu (by assumption)]
    refine v_callV (rest := []) (As := [.long (tok f n a).2.2.2.1]) (mc' := 0) (ms' := 0) (am_Dk d_Rd_readOperand (k := 14) rfl) c_Rd_151 (Or.inl ⟨_, _, _, _, _, h5, cq_ok5⟩) (t_Rd_readInteger G (d := 7) (by omega) h1 h2 hn (by omega) hnm (by omega) (show cs f n M ((ro, nm, mo, ar, (fe, fv, fa, fb)) :: K, true, false, sy, -1, ou, pr, a, (le, lv, l0, l1), (re, rv, r0, r1), (e, v, a0, b0)) from ⟨h5, ⟨_, _, _, h6, hnu⟩, h7, fun z => absurd z (by decide), ⟨⟨_, ht⟩, hf, cs_Kup hK (fun i z1 z2 => rfl)⟩, cs_Xup hX (fun i (z1 : 2 * (K.length + 1) + 1008 ≤ i) z2 => rfl), hle, hri, hla⟩)) (by omega) (by omega) (by omega) (by simp [Value.category]) rfl (fun v10 M11 n12 h13 => ?_) (fun _ _ _ h13 => ?_)
    rotate_left
    · exact absurd h13.1 (by simp)
    obtain ⟨h13, e16, hc14, hf15⟩ := h13
    replace e16 := e16.symm
    subst e16
    cases h13
    show am_V G _ _ _ _ _ 62 [(0, .ref 1005)] [] M11 nx 0 0
    refine v_goto (tgt := 115) (am_Dk d_Rd_readOperand (k := 15) rfl) (by decide) ?_
    have hE : c_rop f n (cl_lu c Vl Vg Vn f) ((ro, nm, mo, ar, (fe, fv, fa, fb)) :: K, true, false, sy, -1, ou, pr, a, (le, lv, l0, l1), (re, rv, r0, r1), (e, v, a0, b0)) = c_int f n ((tok f n a).2.2.2.1) ((ro, nm, mo, ar, (fe, fv, fa, fb)) :: K, true, false, sy, -1, ou, pr, a, (le, lv, l0, l1), (re, rv, r0, r1), (e, v, a0, b0)) := by
      rw [c_rop, if_neg K0_s, if_pos K1_s]
    refine v_return (am_Dk d_Rd_readOperand (k := 36) rfl) rfl (by omega) (by omega) ⟨rfl, rfl, ?_, fun i hi => (hf15 i hi).trans (rfl)⟩
    rw [hE]
    exact hc14
  by_cases K3_s : (tok f n a).1 = 3
  · refine v_tableIn (tgt := 65) (off := 51) (am_Dk d_Rd_readOperand (k := 6) rfl) (by rw [K3_s]; decide) (by rw [K3_s]; decide) (by rw [K3_s]; decide) (by decide) ?_
    refine v_aload_n (am_Dk d_Rd_readOperand (k := 16) rfl) rfl ?_
    refine v_get (am_Dk d_Rd_readOperand (k := 17) rfl) f_Rd_24 h5 rfl ?_
    refine v_callV (rest := []) (As := []) (mc' := 0) (ms' := 0) (am_Dk d_Rd_readOperand (k := 18) rfl) c_Rd_155 (Or.inl ⟨_, _, _, _, _, h6, cq_ok6⟩) (t_Sg_next G (d := 6) (a := (tok f n a).2.2.1) (by omega) h1 h2 (by omega) (by omega) h6) (by omega) (by omega) (by omega) (by simp [Value.category]) rfl (fun v17 M18 n19 h20 => ?_) (fun _ _ _ h20 => ?_)
    rotate_left
    · exact absurd h20.1 (by simp)
    obtain ⟨h20, e25, nu21, nf22, nt23, e24, hv26⟩ := h20
    replace e24 := e24.symm
    replace e25 := e25.symm
    subst e24
    subst e25
    cases h20
    show am_V G _ _ _ _ _ 72 [(0, .ref 1005)] [] (am_up M 1006 (.inr (6, [.ref 1001, .ref (26 + (tok f n ((tok f n a).2.2.1)).1), .int (nI (tok f n ((tok f n a).2.2.1)).2.1), .int (nI (tok f n ((tok f n a).2.2.1)).2.2.1), .long nu21, .ref ((tok f n ((tok f n a).2.2.1)).2.2.2.2), .int nf22, .int nt23]))) nx 0 0
    have tk_h20 := tok_ok f (show (tok f n a).2.2.1 ≤ n from by omega)
    refine v_aload_n (am_Dk d_Rd_readOperand (k := 19) rfl) rfl ?_
    refine v_gets (v := .ref 39) (am_Dk d_Rd_readOperand (k := 20) rfl) s_Rd_158 (by decide +kernel) ?_
    refine v_gets (v := .ref 0) (am_Dk d_Rd_readOperand (k := 21) rfl) s_Rd_35 (by decide +kernel) ?_
    refine v_sipush (v := 1200) (am_Dk d_Rd_readOperand (k := 22) rfl) (by decide) ?_
    have m27 : (am_up M 1006 (.inr (6, [.ref 1001, .ref (26 + (tok f n ((tok f n a).2.2.1)).1), .int (nI (tok f n ((tok f n a).2.2.1)).2.1), .int (nI (tok f n ((tok f n a).2.2.1)).2.2.1), .long nu21, .ref ((tok f n ((tok f n a).2.2.1)).2.2.2.2), .int nf22, .int nt23]))) 1005 = some (.inr (5, [.ref 1001, .ref 1003, .ref 1006, .ref 1007, .int (nI (K.length + 1)), .int 1, .int 0, .int (nI sy), .int (-1), .ref ou, .ref 1208, .ref 1209, .ref 1210])) := (am_up_ne (show 1005 ≠ 1006 from by decide)).trans (h5)
    have m28 : (am_up M 1006 (.inr (6, [.ref 1001, .ref (26 + (tok f n ((tok f n a).2.2.1)).1), .int (nI (tok f n ((tok f n a).2.2.1)).2.1), .int (nI (tok f n ((tok f n a).2.2.1)).2.2.1), .long nu21, .ref ((tok f n ((tok f n a).2.2.1)).2.2.2.2), .int nf22, .int nt23]))) 1006 = some (.inr (6, [.ref 1001, .ref (26 + (tok f n ((tok f n a).2.2.1)).1), .int (nI (tok f n ((tok f n a).2.2.1)).2.1), .int (nI (tok f n ((tok f n a).2.2.1)).2.2.1), .long nu21, .ref ((tok f n ((tok f n a).2.2.1)).2.2.2.2), .int nf22, .int nt23])) := am_up_eq _ _ _
    have m29 : (am_up M 1006 (.inr (6, [.ref 1001, .ref (26 + (tok f n ((tok f n a).2.2.1)).1), .int (nI (tok f n ((tok f n a).2.2.1)).2.1), .int (nI (tok f n ((tok f n a).2.2.1)).2.2.1), .long nu21, .ref ((tok f n ((tok f n a).2.2.1)).2.2.2.2), .int nf22, .int nt23]))) 1007 = some (.inl (4, 100, .inr (.inr (.inr (.inr (ci_arr 100)))))) := (am_up_ne (show 1007 ≠ 1006 from by decide)).trans (h7)
    have m30 : (am_up M 1006 (.inr (6, [.ref 1001, .ref (26 + (tok f n ((tok f n a).2.2.1)).1), .int (nI (tok f n ((tok f n a).2.2.1)).2.1), .int (nI (tok f n ((tok f n a).2.2.1)).2.2.1), .long nu21, .ref ((tok f n ((tok f n a).2.2.1)).2.2.2.2), .int nf22, .int nt23]))) 1210 = some (.inr (8, [.int e, .long v, .int a0, .int b0])) := (am_up_ne (show 1210 ≠ 1006 from by decide)).trans (hla)
    refine v_callV (rest := []) (As := [.ref 39, .ref 0, .int 1200]) (mc' := 0) (ms' := 0) (am_Dk d_Rd_readOperand (k := 23) rfl) c_Rd_81 (Or.inl ⟨_, _, _, _, _, m27, cq_ok5⟩) (t_Rd_begin G (d := 1) (j := K.length + 1) (dp := 0) (by omega) (by omega) m27 m28 m29 m30 (fun z => cs_Xup hX (fun i (z1 : 2 * (K.length + 1) + 1008 ≤ i) z2 => (am_up_ne (show i ≠ 1006 from by omega)).trans (rfl)) _ (Nat.le_refl _) z)) (by omega) (by omega) (by omega) (by simp [Value.category]) rfl (fun v31 M32 n33 h34 => ?_) (fun v31 M32 n33 h34 => ?_)
    · rcases h34 with ⟨hj9, h34, e1, e2⟩ | ⟨hj9, h34, ⟨ro9, tn9, mo9, pr9, ar9, e9, v9, a9, b9, hx1, hx2, e1⟩, e2⟩
      · cases h34
        replace e1 := e1.symm
        replace e2 := e2.symm
        subst e1
        subst e2
        show am_V G _ _ _ _ _ 85 [(0, .ref 1005)] [] (am_up (am_up M 1006 (.inr (6, [.ref 1001, .ref (26 + (tok f n ((tok f n a).2.2.1)).1), .int (nI (tok f n ((tok f n a).2.2.1)).2.1), .int (nI (tok f n ((tok f n a).2.2.1)).2.2.1), .long nu21, .ref ((tok f n ((tok f n a).2.2.1)).2.2.2.2), .int nf22, .int nt23]))) 1005 (.inr (5, [.ref 1001, .ref 1003, .ref 1006, .ref 1007, .int (nI (K.length + 1)), .int 1, .int 0, .int (nI sy), .int (nI (tok f n ((tok f n a).2.2.1)).2.1), .ref ou, .ref 1208, .ref 1209, .ref 1210]))) nx 0 0
        refine v_goto (tgt := 115) (am_Dk d_Rd_readOperand (k := 24) rfl) (by decide) ?_
        have hE : c_rop f n (cl_lu c Vl Vg Vn f) ((ro, nm, mo, ar, (fe, fv, fa, fb)) :: K, true, false, sy, -1, ou, pr, a, (le, lv, l0, l1), (re, rv, r0, r1), (e, v, a0, b0)) = ((ro, nm, mo, ar, (fe, fv, fa, fb)) :: K, true, false, sy, nI (tok f n ((tok f n a).2.2.1)).2.1, ou, pr, ((tok f n a).2.2.1), (le, lv, l0, l1), (re, rv, r0, r1), (e, v, a0, b0)) := by
          rw [c_rop, if_neg K0_s, if_neg K1_s, if_pos K3_s, c_beg, if_neg (show ¬ (_ :: _).length < 100 from by show ¬ K.length + 1 < 100; omega)]
          try rfl
        refine v_return (am_Dk d_Rd_readOperand (k := 36) rfl) rfl (by omega) (by omega) ⟨rfl, rfl, ?_, fun i hi => (am_up_ne (show i ≠ 1005 from by omega)).trans ((am_up_ne (show i ≠ 1006 from by omega)).trans (rfl))⟩
        rw [hE]
        exact ⟨am_up_eq _ _ _, ⟨_, _, _, (am_up_ne (show 1006 ≠ 1005 from by decide)).trans (am_up_eq _ _ _), hv26⟩, (am_up_ne (show 1007 ≠ 1005 from by decide)).trans ((am_up_ne (show 1007 ≠ 1006 from by decide)).trans (h7)), fun z => absurd z (by decide), ⟨⟨_, (am_up_ne (show (2 * K.length + 1008) ≠ 1005 from by omega)).trans ((am_up_ne (show (2 * K.length + 1008) ≠ 1006 from by omega)).trans (ht))⟩, (am_up_ne (show (2 * K.length + 1009) ≠ 1005 from by omega)).trans ((am_up_ne (show (2 * K.length + 1009) ≠ 1006 from by omega)).trans (hf)), cs_Kup hK (fun i z1 z2 => (am_up_ne (show i ≠ 1005 from by omega)).trans ((am_up_ne (show i ≠ 1006 from by omega)).trans (rfl)))⟩, cs_Xup hX (fun i (z1 : 2 * (K.length + 1) + 1008 ≤ i) z2 => (am_up_ne (show i ≠ 1005 from by omega)).trans ((am_up_ne (show i ≠ 1006 from by omega)).trans (rfl))), (am_up_ne (show 1208 ≠ 1005 from by decide)).trans ((am_up_ne (show 1208 ≠ 1006 from by decide)).trans (hle)), (am_up_ne (show 1209 ≠ 1005 from by decide)).trans ((am_up_ne (show 1209 ≠ 1006 from by decide)).trans (hri)), (am_up_ne (show 1210 ≠ 1005 from by decide)).trans ((am_up_ne (show 1210 ≠ 1006 from by decide)).trans (hla))⟩
      · cases h34
        replace e1 := e1.symm
        replace e2 := e2.symm
        subst e1
        subst e2
        show am_V G _ _ _ _ _ 85 [(0, .ref 1005)] [] (am_up (am_up (am_up (am_up M 1006 (.inr (6, [.ref 1001, .ref (26 + (tok f n ((tok f n a).2.2.1)).1), .int (nI (tok f n ((tok f n a).2.2.1)).2.1), .int (nI (tok f n ((tok f n a).2.2.1)).2.2.1), .long nu21, .ref ((tok f n ((tok f n a).2.2.1)).2.2.2.2), .int nf22, .int nt23]))) (2 * (K.length + 1) + 1008) (.inr (7, [.ref 39, .ref 0, .int 1200, .int pr9, .int 0, .ref (2 * (K.length + 1) + 1009)]))) (2 * (K.length + 1) + 1009) (.inr (8, [.int e, .long v, .int a0, .int b0]))) 1005 (.inr (5, [.ref 1001, .ref 1003, .ref 1006, .ref 1007, .int (nI (K.length + 2)), .int 1, .int 0, .int (nI sy), .int (-1), .ref ou, .ref 1208, .ref 1209, .ref 1210]))) nx 0 0
        refine v_goto (tgt := 115) (am_Dk d_Rd_readOperand (k := 24) rfl) (by decide) ?_
        have hE : c_rop f n (cl_lu c Vl Vg Vn f) ((ro, nm, mo, ar, (fe, fv, fa, fb)) :: K, true, false, sy, -1, ou, pr, a, (le, lv, l0, l1), (re, rv, r0, r1), (e, v, a0, b0)) = ((1, 0, 1200, 0, (e, v, a0, b0)) :: (ro, nm, mo, ar, (fe, fv, fa, fb)) :: K, true, false, sy, -1, ou, 0, ((tok f n a).2.2.1), (le, lv, l0, l1), (re, rv, r0, r1), (e, v, a0, b0)) := by
          rw [c_rop, if_neg K0_s, if_neg K1_s, if_pos K3_s, c_beg, if_pos (show (_ :: _).length < 100 from by show K.length + 1 < 100; omega)]
          try rfl
        refine v_return (am_Dk d_Rd_readOperand (k := 36) rfl) rfl (by omega) (by omega) ⟨rfl, rfl, ?_, fun i hi => (am_up_ne (show i ≠ 1005 from by omega)).trans ((am_up_ne (show i ≠ (2 * (K.length + 1) + 1009) from by omega)).trans ((am_up_ne (show i ≠ (2 * (K.length + 1) + 1008) from by omega)).trans ((am_up_ne (show i ≠ 1006 from by omega)).trans (rfl))))⟩
        rw [hE]
        exact ⟨am_up_eq _ _ _, ⟨_, _, _, (am_up_ne (show 1006 ≠ 1005 from by decide)).trans ((am_up_ne (show 1006 ≠ (2 * (K.length + 1) + 1009) from by omega)).trans ((am_up_ne (show 1006 ≠ (2 * (K.length + 1) + 1008) from by omega)).trans (am_up_eq _ _ _))), hv26⟩, (am_up_ne (show 1007 ≠ 1005 from by decide)).trans ((am_up_ne (show 1007 ≠ (2 * (K.length + 1) + 1009) from by omega)).trans ((am_up_ne (show 1007 ≠ (2 * (K.length + 1) + 1008) from by omega)).trans ((am_up_ne (show 1007 ≠ 1006 from by decide)).trans (h7)))), fun z => absurd z (by decide), ⟨⟨_, (am_up_ne (show (2 * (K.length + 1) + 1008) ≠ 1005 from by omega)).trans ((am_up_ne (show (2 * (K.length + 1) + 1008) ≠ (2 * (K.length + 1) + 1009) from by omega)).trans (am_up_eq _ _ _))⟩, (am_up_ne (show (2 * (K.length + 1) + 1009) ≠ 1005 from by omega)).trans (am_up_eq _ _ _), ⟨_, (am_up_ne (show (2 * K.length + 1008) ≠ 1005 from by omega)).trans ((am_up_ne (show (2 * K.length + 1008) ≠ (2 * (K.length + 1) + 1009) from by omega)).trans ((am_up_ne (show (2 * K.length + 1008) ≠ (2 * (K.length + 1) + 1008) from by omega)).trans ((am_up_ne (show (2 * K.length + 1008) ≠ 1006 from by omega)).trans (ht))))⟩, (am_up_ne (show (2 * K.length + 1009) ≠ 1005 from by omega)).trans ((am_up_ne (show (2 * K.length + 1009) ≠ (2 * (K.length + 1) + 1009) from by omega)).trans ((am_up_ne (show (2 * K.length + 1009) ≠ (2 * (K.length + 1) + 1008) from by omega)).trans ((am_up_ne (show (2 * K.length + 1009) ≠ 1006 from by omega)).trans (hf)))), cs_Kup hK (fun i z1 z2 => (am_up_ne (show i ≠ 1005 from by omega)).trans ((am_up_ne (show i ≠ (2 * (K.length + 1) + 1009) from by omega)).trans ((am_up_ne (show i ≠ (2 * (K.length + 1) + 1008) from by omega)).trans ((am_up_ne (show i ≠ 1006 from by omega)).trans (rfl)))))⟩, cs_Xup (cs_Xmo hX (Nat.le_succ _)) (fun i (z1 : 2 * (K.length + 2) + 1008 ≤ i) z2 => (am_up_ne (show i ≠ 1005 from by omega)).trans ((am_up_ne (show i ≠ (2 * (K.length + 1) + 1009) from by omega)).trans ((am_up_ne (show i ≠ (2 * (K.length + 1) + 1008) from by omega)).trans ((am_up_ne (show i ≠ 1006 from by omega)).trans (rfl))))), (am_up_ne (show 1208 ≠ 1005 from by decide)).trans ((am_up_ne (show 1208 ≠ (2 * (K.length + 1) + 1009) from by omega)).trans ((am_up_ne (show 1208 ≠ (2 * (K.length + 1) + 1008) from by omega)).trans ((am_up_ne (show 1208 ≠ 1006 from by decide)).trans (hle)))), (am_up_ne (show 1209 ≠ 1005 from by decide)).trans ((am_up_ne (show 1209 ≠ (2 * (K.length + 1) + 1009) from by omega)).trans ((am_up_ne (show 1209 ≠ (2 * (K.length + 1) + 1008) from by omega)).trans ((am_up_ne (show 1209 ≠ 1006 from by decide)).trans (hri)))), (am_up_ne (show 1210 ≠ 1005 from by decide)).trans ((am_up_ne (show 1210 ≠ (2 * (K.length + 1) + 1009) from by omega)).trans ((am_up_ne (show 1210 ≠ (2 * (K.length + 1) + 1008) from by omega)).trans ((am_up_ne (show 1210 ≠ 1006 from by decide)).trans (hla))))⟩
    · rcases h34 with ⟨hj9, h34, e1, e2⟩ | ⟨hj9, h34, ⟨ro9, tn9, mo9, pr9, ar9, e9, v9, a9, b9, hx1, hx2, e1⟩, e2⟩
      · cases h34
      · cases h34
  by_cases K5_s : (tok f n a).1 = 5
  · refine v_tableIn (tgt := 88) (off := 74) (am_Dk d_Rd_readOperand (k := 6) rfl) (by rw [K5_s]; decide) (by rw [K5_s]; decide) (by rw [K5_s]; decide) (by decide) ?_
    refine v_aload_n (am_Dk d_Rd_readOperand (k := 25) rfl) rfl ?_
    refine v_get (am_Dk d_Rd_readOperand (k := 26) rfl) f_Rd_24 h5 rfl ?_
    refine v_callV (rest := []) (As := []) (mc' := 0) (ms' := 0) (am_Dk d_Rd_readOperand (k := 27) rfl) c_Rd_155 (Or.inl ⟨_, _, _, _, _, h6, cq_ok6⟩) (t_Sg_next G (d := 6) (a := (tok f n a).2.2.1) (by omega) h1 h2 (by omega) (by omega) h6) (by omega) (by omega) (by omega) (by simp [Value.category]) rfl (fun v35 M36 n37 h38 => ?_) (fun _ _ _ h38 => ?_)
    rotate_left
    · exact absurd h38.1 (by simp)
    obtain ⟨h38, e43, nu39, nf40, nt41, e42, hv44⟩ := h38
    replace e42 := e42.symm
    replace e43 := e43.symm
    subst e42
    subst e43
    cases h38
    show am_V G _ _ _ _ _ 95 [(0, .ref 1005)] [] (am_up M 1006 (.inr (6, [.ref 1001, .ref (26 + (tok f n ((tok f n a).2.2.1)).1), .int (nI (tok f n ((tok f n a).2.2.1)).2.1), .int (nI (tok f n ((tok f n a).2.2.1)).2.2.1), .long nu39, .ref ((tok f n ((tok f n a).2.2.1)).2.2.2.2), .int nf40, .int nt41]))) nx 0 0
    have tk_h38 := tok_ok f (show (tok f n a).2.2.1 ≤ n from by omega)
    refine v_aload_n (am_Dk d_Rd_readOperand (k := 28) rfl) rfl ?_
    refine v_gets (v := .ref 43) (am_Dk d_Rd_readOperand (k := 29) rfl) s_Rd_161 (by decide +kernel) ?_
    refine v_gets (v := .ref 0) (am_Dk d_Rd_readOperand (k := 30) rfl) s_Rd_35 (by decide +kernel) ?_
    refine v_sipush (v := 999) (am_Dk d_Rd_readOperand (k := 31) rfl) (by decide) ?_
    have m45 : (am_up M 1006 (.inr (6, [.ref 1001, .ref (26 + (tok f n ((tok f n a).2.2.1)).1), .int (nI (tok f n ((tok f n a).2.2.1)).2.1), .int (nI (tok f n ((tok f n a).2.2.1)).2.2.1), .long nu39, .ref ((tok f n ((tok f n a).2.2.1)).2.2.2.2), .int nf40, .int nt41]))) 1005 = some (.inr (5, [.ref 1001, .ref 1003, .ref 1006, .ref 1007, .int (nI (K.length + 1)), .int 1, .int 0, .int (nI sy), .int (-1), .ref ou, .ref 1208, .ref 1209, .ref 1210])) := (am_up_ne (show 1005 ≠ 1006 from by decide)).trans (h5)
    have m46 : (am_up M 1006 (.inr (6, [.ref 1001, .ref (26 + (tok f n ((tok f n a).2.2.1)).1), .int (nI (tok f n ((tok f n a).2.2.1)).2.1), .int (nI (tok f n ((tok f n a).2.2.1)).2.2.1), .long nu39, .ref ((tok f n ((tok f n a).2.2.1)).2.2.2.2), .int nf40, .int nt41]))) 1006 = some (.inr (6, [.ref 1001, .ref (26 + (tok f n ((tok f n a).2.2.1)).1), .int (nI (tok f n ((tok f n a).2.2.1)).2.1), .int (nI (tok f n ((tok f n a).2.2.1)).2.2.1), .long nu39, .ref ((tok f n ((tok f n a).2.2.1)).2.2.2.2), .int nf40, .int nt41])) := am_up_eq _ _ _
    have m47 : (am_up M 1006 (.inr (6, [.ref 1001, .ref (26 + (tok f n ((tok f n a).2.2.1)).1), .int (nI (tok f n ((tok f n a).2.2.1)).2.1), .int (nI (tok f n ((tok f n a).2.2.1)).2.2.1), .long nu39, .ref ((tok f n ((tok f n a).2.2.1)).2.2.2.2), .int nf40, .int nt41]))) 1007 = some (.inl (4, 100, .inr (.inr (.inr (.inr (ci_arr 100)))))) := (am_up_ne (show 1007 ≠ 1006 from by decide)).trans (h7)
    have m48 : (am_up M 1006 (.inr (6, [.ref 1001, .ref (26 + (tok f n ((tok f n a).2.2.1)).1), .int (nI (tok f n ((tok f n a).2.2.1)).2.1), .int (nI (tok f n ((tok f n a).2.2.1)).2.2.1), .long nu39, .ref ((tok f n ((tok f n a).2.2.1)).2.2.2.2), .int nf40, .int nt41]))) 1210 = some (.inr (8, [.int e, .long v, .int a0, .int b0])) := (am_up_ne (show 1210 ≠ 1006 from by decide)).trans (hla)
    refine v_callV (rest := []) (As := [.ref 43, .ref 0, .int 999]) (mc' := 0) (ms' := 0) (am_Dk d_Rd_readOperand (k := 32) rfl) c_Rd_81 (Or.inl ⟨_, _, _, _, _, m45, cq_ok5⟩) (t_Rd_begin G (d := 1) (j := K.length + 1) (dp := 0) (by omega) (by omega) m45 m46 m47 m48 (fun z => cs_Xup hX (fun i (z1 : 2 * (K.length + 1) + 1008 ≤ i) z2 => (am_up_ne (show i ≠ 1006 from by omega)).trans (rfl)) _ (Nat.le_refl _) z)) (by omega) (by omega) (by omega) (by simp [Value.category]) rfl (fun v49 M50 n51 h52 => ?_) (fun v49 M50 n51 h52 => ?_)
    · rcases h52 with ⟨hj9, h52, e1, e2⟩ | ⟨hj9, h52, ⟨ro9, tn9, mo9, pr9, ar9, e9, v9, a9, b9, hx1, hx2, e1⟩, e2⟩
      · cases h52
        replace e1 := e1.symm
        replace e2 := e2.symm
        subst e1
        subst e2
        show am_V G _ _ _ _ _ 108 [(0, .ref 1005)] [] (am_up (am_up M 1006 (.inr (6, [.ref 1001, .ref (26 + (tok f n ((tok f n a).2.2.1)).1), .int (nI (tok f n ((tok f n a).2.2.1)).2.1), .int (nI (tok f n ((tok f n a).2.2.1)).2.2.1), .long nu39, .ref ((tok f n ((tok f n a).2.2.1)).2.2.2.2), .int nf40, .int nt41]))) 1005 (.inr (5, [.ref 1001, .ref 1003, .ref 1006, .ref 1007, .int (nI (K.length + 1)), .int 1, .int 0, .int (nI sy), .int (nI (tok f n ((tok f n a).2.2.1)).2.1), .ref ou, .ref 1208, .ref 1209, .ref 1210]))) nx 0 0
        refine v_goto (tgt := 115) (am_Dk d_Rd_readOperand (k := 33) rfl) (by decide) ?_
        have hE : c_rop f n (cl_lu c Vl Vg Vn f) ((ro, nm, mo, ar, (fe, fv, fa, fb)) :: K, true, false, sy, -1, ou, pr, a, (le, lv, l0, l1), (re, rv, r0, r1), (e, v, a0, b0)) = ((ro, nm, mo, ar, (fe, fv, fa, fb)) :: K, true, false, sy, nI (tok f n ((tok f n a).2.2.1)).2.1, ou, pr, ((tok f n a).2.2.1), (le, lv, l0, l1), (re, rv, r0, r1), (e, v, a0, b0)) := by
          rw [c_rop, if_neg K0_s, if_neg K1_s, if_neg K3_s, if_pos K5_s, c_beg, if_neg (show ¬ (_ :: _).length < 100 from by show ¬ K.length + 1 < 100; omega)]
          try rfl
        refine v_return (am_Dk d_Rd_readOperand (k := 36) rfl) rfl (by omega) (by omega) ⟨rfl, rfl, ?_, fun i hi => (am_up_ne (show i ≠ 1005 from by omega)).trans ((am_up_ne (show i ≠ 1006 from by omega)).trans (rfl))⟩
        rw [hE]
        exact ⟨am_up_eq _ _ _, ⟨_, _, _, (am_up_ne (show 1006 ≠ 1005 from by decide)).trans (am_up_eq _ _ _), hv44⟩, (am_up_ne (show 1007 ≠ 1005 from by decide)).trans ((am_up_ne (show 1007 ≠ 1006 from by decide)).trans (h7)), fun z => absurd z (by decide), ⟨⟨_, (am_up_ne (show (2 * K.length + 1008) ≠ 1005 from by omega)).trans ((am_up_ne (show (2 * K.length + 1008) ≠ 1006 from by omega)).trans (ht))⟩, (am_up_ne (show (2 * K.length + 1009) ≠ 1005 from by omega)).trans ((am_up_ne (show (2 * K.length + 1009) ≠ 1006 from by omega)).trans (hf)), cs_Kup hK (fun i z1 z2 => (am_up_ne (show i ≠ 1005 from by omega)).trans ((am_up_ne (show i ≠ 1006 from by omega)).trans (rfl)))⟩, cs_Xup hX (fun i (z1 : 2 * (K.length + 1) + 1008 ≤ i) z2 => (am_up_ne (show i ≠ 1005 from by omega)).trans ((am_up_ne (show i ≠ 1006 from by omega)).trans (rfl))), (am_up_ne (show 1208 ≠ 1005 from by decide)).trans ((am_up_ne (show 1208 ≠ 1006 from by decide)).trans (hle)), (am_up_ne (show 1209 ≠ 1005 from by decide)).trans ((am_up_ne (show 1209 ≠ 1006 from by decide)).trans (hri)), (am_up_ne (show 1210 ≠ 1005 from by decide)).trans ((am_up_ne (show 1210 ≠ 1006 from by decide)).trans (hla))⟩
      · cases h52
        replace e1 := e1.symm
        replace e2 := e2.symm
        subst e1
        subst e2
        show am_V G _ _ _ _ _ 108 [(0, .ref 1005)] [] (am_up (am_up (am_up (am_up M 1006 (.inr (6, [.ref 1001, .ref (26 + (tok f n ((tok f n a).2.2.1)).1), .int (nI (tok f n ((tok f n a).2.2.1)).2.1), .int (nI (tok f n ((tok f n a).2.2.1)).2.2.1), .long nu39, .ref ((tok f n ((tok f n a).2.2.1)).2.2.2.2), .int nf40, .int nt41]))) (2 * (K.length + 1) + 1008) (.inr (7, [.ref 43, .ref 0, .int 999, .int pr9, .int 0, .ref (2 * (K.length + 1) + 1009)]))) (2 * (K.length + 1) + 1009) (.inr (8, [.int e, .long v, .int a0, .int b0]))) 1005 (.inr (5, [.ref 1001, .ref 1003, .ref 1006, .ref 1007, .int (nI (K.length + 2)), .int 1, .int 0, .int (nI sy), .int (-1), .ref ou, .ref 1208, .ref 1209, .ref 1210]))) nx 0 0
        refine v_goto (tgt := 115) (am_Dk d_Rd_readOperand (k := 33) rfl) (by decide) ?_
        have hE : c_rop f n (cl_lu c Vl Vg Vn f) ((ro, nm, mo, ar, (fe, fv, fa, fb)) :: K, true, false, sy, -1, ou, pr, a, (le, lv, l0, l1), (re, rv, r0, r1), (e, v, a0, b0)) = ((5, 0, 999, 0, (e, v, a0, b0)) :: (ro, nm, mo, ar, (fe, fv, fa, fb)) :: K, true, false, sy, -1, ou, 0, ((tok f n a).2.2.1), (le, lv, l0, l1), (re, rv, r0, r1), (e, v, a0, b0)) := by
          rw [c_rop, if_neg K0_s, if_neg K1_s, if_neg K3_s, if_pos K5_s, c_beg, if_pos (show (_ :: _).length < 100 from by show K.length + 1 < 100; omega)]
          try rfl
        refine v_return (am_Dk d_Rd_readOperand (k := 36) rfl) rfl (by omega) (by omega) ⟨rfl, rfl, ?_, fun i hi => (am_up_ne (show i ≠ 1005 from by omega)).trans ((am_up_ne (show i ≠ (2 * (K.length + 1) + 1009) from by omega)).trans ((am_up_ne (show i ≠ (2 * (K.length + 1) + 1008) from by omega)).trans ((am_up_ne (show i ≠ 1006 from by omega)).trans (rfl))))⟩
        rw [hE]
        exact ⟨am_up_eq _ _ _, ⟨_, _, _, (am_up_ne (show 1006 ≠ 1005 from by decide)).trans ((am_up_ne (show 1006 ≠ (2 * (K.length + 1) + 1009) from by omega)).trans ((am_up_ne (show 1006 ≠ (2 * (K.length + 1) + 1008) from by omega)).trans (am_up_eq _ _ _))), hv44⟩, (am_up_ne (show 1007 ≠ 1005 from by decide)).trans ((am_up_ne (show 1007 ≠ (2 * (K.length + 1) + 1009) from by omega)).trans ((am_up_ne (show 1007 ≠ (2 * (K.length + 1) + 1008) from by omega)).trans ((am_up_ne (show 1007 ≠ 1006 from by decide)).trans (h7)))), fun z => absurd z (by decide), ⟨⟨_, (am_up_ne (show (2 * (K.length + 1) + 1008) ≠ 1005 from by omega)).trans ((am_up_ne (show (2 * (K.length + 1) + 1008) ≠ (2 * (K.length + 1) + 1009) from by omega)).trans (am_up_eq _ _ _))⟩, (am_up_ne (show (2 * (K.length + 1) + 1009) ≠ 1005 from by omega)).trans (am_up_eq _ _ _), ⟨_, (am_up_ne (show (2 * K.length + 1008) ≠ 1005 from by omega)).trans ((am_up_ne (show (2 * K.length + 1008) ≠ (2 * (K.length + 1) + 1009) from by omega)).trans ((am_up_ne (show (2 * K.length + 1008) ≠ (2 * (K.length + 1) + 1008) from by omega)).trans ((am_up_ne (show (2 * K.length + 1008) ≠ 1006 from by omega)).trans (ht))))⟩, (am_up_ne (show (2 * K.length + 1009) ≠ 1005 from by omega)).trans ((am_up_ne (show (2 * K.length + 1009) ≠ (2 * (K.length + 1) + 1009) from by omega)).trans ((am_up_ne (show (2 * K.length + 1009) ≠ (2 * (K.length + 1) + 1008) from by omega)).trans ((am_up_ne (show (2 * K.length + 1009) ≠ 1006 from by omega)).trans (hf)))), cs_Kup hK (fun i z1 z2 => (am_up_ne (show i ≠ 1005 from by omega)).trans ((am_up_ne (show i ≠ (2 * (K.length + 1) + 1009) from by omega)).trans ((am_up_ne (show i ≠ (2 * (K.length + 1) + 1008) from by omega)).trans ((am_up_ne (show i ≠ 1006 from by omega)).trans (rfl)))))⟩, cs_Xup (cs_Xmo hX (Nat.le_succ _)) (fun i (z1 : 2 * (K.length + 2) + 1008 ≤ i) z2 => (am_up_ne (show i ≠ 1005 from by omega)).trans ((am_up_ne (show i ≠ (2 * (K.length + 1) + 1009) from by omega)).trans ((am_up_ne (show i ≠ (2 * (K.length + 1) + 1008) from by omega)).trans ((am_up_ne (show i ≠ 1006 from by omega)).trans (rfl))))), (am_up_ne (show 1208 ≠ 1005 from by decide)).trans ((am_up_ne (show 1208 ≠ (2 * (K.length + 1) + 1009) from by omega)).trans ((am_up_ne (show 1208 ≠ (2 * (K.length + 1) + 1008) from by omega)).trans ((am_up_ne (show 1208 ≠ 1006 from by decide)).trans (hle)))), (am_up_ne (show 1209 ≠ 1005 from by decide)).trans ((am_up_ne (show 1209 ≠ (2 * (K.length + 1) + 1009) from by omega)).trans ((am_up_ne (show 1209 ≠ (2 * (K.length + 1) + 1008) from by omega)).trans ((am_up_ne (show 1209 ≠ 1006 from by decide)).trans (hri)))), (am_up_ne (show 1210 ≠ 1005 from by decide)).trans ((am_up_ne (show 1210 ≠ (2 * (K.length + 1) + 1009) from by omega)).trans ((am_up_ne (show 1210 ≠ (2 * (K.length + 1) + 1008) from by omega)).trans ((am_up_ne (show 1210 ≠ 1006 from by decide)).trans (hla))))⟩
    · rcases h52 with ⟨hj9, h52, e1, e2⟩ | ⟨hj9, h52, ⟨ro9, tn9, mo9, pr9, ar9, e9, v9, a9, b9, hx1, hx2, e1⟩, e2⟩
      · cases h52
      · cases h52
  refine v_tableOut (tgt := 111) (am_Dk d_Rd_readOperand (k := 6) rfl) (swK_o1 _ (by omega) K0_s K1_s K3_s K5_s) (by decide) ?_
  refine v_aload_n (am_Dk d_Rd_readOperand (k := 34) rfl) rfl ?_
  refine v_callV (rest := []) (As := []) (mc' := 0) (ms' := 0) (am_Dk d_Rd_readOperand (k := 35) rfl) c_Rd_106 (Or.inl ⟨_, _, _, _, _, h5, cq_ok5⟩) (t_Rd_breakHere G (d := 0) (by omega) h5 h6) (by omega) (by omega) (by omega) (by simp [Value.category]) rfl (fun v53 M54 n55 h56 => ?_) (fun _ _ _ h56 => ?_)
  rotate_left
  · exact absurd h56.1 (by simp)
  obtain ⟨h56, e57, e58⟩ := h56
  replace e57 := e57.symm
  replace e58 := e58.symm
  subst e57
  subst e58
  cases h56
  show am_V G _ _ _ _ _ 115 [(0, .ref 1005)] [] (am_up M 1005 (.inr (5, [.ref 1001, .ref 1003, .ref 1006, .ref 1007, .int (nI (K.length + 1)), .int 1, .int 0, .int (nI sy), .int (nI (tok f n a).2.1), .ref ou, .ref 1208, .ref 1209, .ref 1210]))) nx 0 0
  have hE : c_rop f n (cl_lu c Vl Vg Vn f) ((ro, nm, mo, ar, (fe, fv, fa, fb)) :: K, true, false, sy, -1, ou, pr, a, (le, lv, l0, l1), (re, rv, r0, r1), (e, v, a0, b0)) = ((ro, nm, mo, ar, (fe, fv, fa, fb)) :: K, true, false, sy, nI (tok f n a).2.1, ou, pr, a, (le, lv, l0, l1), (re, rv, r0, r1), (e, v, a0, b0)) := by
    rw [c_rop, if_neg K0_s, if_neg K1_s, if_neg K3_s, if_neg K5_s, c_brk]
    try rfl
  refine v_return (am_Dk d_Rd_readOperand (k := 36) rfl) rfl (by omega) (by omega) ⟨rfl, rfl, ?_, fun i hi => (am_up_ne (show i ≠ 1005 from by omega)).trans (rfl)⟩
  rw [hE]
  exact ⟨am_up_eq _ _ _, ⟨_, _, _, (am_up_ne (show 1006 ≠ 1005 from by decide)).trans (h6), hnu⟩, (am_up_ne (show 1007 ≠ 1005 from by decide)).trans (h7), fun z => absurd z (by decide), ⟨⟨_, (am_up_ne (show (2 * K.length + 1008) ≠ 1005 from by omega)).trans (ht)⟩, (am_up_ne (show (2 * K.length + 1009) ≠ 1005 from by omega)).trans (hf), cs_Kup hK (fun i z1 z2 => (am_up_ne (show i ≠ 1005 from by omega)).trans (rfl))⟩, cs_Xup hX (fun i (z1 : 2 * (K.length + 1) + 1008 ≤ i) z2 => (am_up_ne (show i ≠ 1005 from by omega)).trans (rfl)), (am_up_ne (show 1208 ≠ 1005 from by decide)).trans (hle), (am_up_ne (show 1209 ≠ 1005 from by decide)).trans (hri), (am_up_ne (show 1210 ≠ 1005 from by decide)).trans (hla)⟩
set_option maxRecDepth 20000 in
theorem t_Rd_readName (G : am_G) {d nx : Nat} (hd : 8 ≤ d) {M : am_M} {f : Nat → Int32} {n : Nat} (h1 : M 1001 = some (.inr (1, [.ref 1002, .int (nI n)]))) (h2 : M 1002 = some (.inl (0, 4096, .inl f))) (hn : n ≤ 4096) {K : List Frm} {ro nm ar sy ou a : Nat} {mo pr fa fb fe l0 l1 le r0 r1 re a0 b0 e : Int32} {fv lv rv v : Int64} (hl : K.length < 100) (hnm : nm < 26) (ha : a ≤ n)  (hcs : cs f n M ((ro, nm, mo, ar, (fe, fv, fa, fb)) :: K, true, false, sy, -1, ou, pr, a, (le, lv, l0, l1), (re, rv, r0, r1), (e, v, a0, b0))) : am_Tr G m_Rd_readName d 0 0 [.ref 1005] M nx (fun r M1 nx1 => r = .inl none ∧ nx1 = nx ∧ cs f n M1 (c_name f n ((ro, nm, mo, ar, (fe, fv, fa, fb)) :: K, true, false, sy, -1, ou, pr, a, (le, lv, l0, l1), (re, rv, r0, r1), (e, v, a0, b0))) ∧ cs_fr M M1) := by
  refine am_TrOf (by decide) (Nat.le_of_ble_eq_true rfl) ?_
  show am_V G _ _ _ _ _ 0 [(0, .ref 1005)] [] M nx 0 0
  obtain ⟨h5, ⟨nu, nf, nt, h6, hnu⟩, h7, qT, ⟨⟨pr0, ht⟩, hf, hK⟩, hX, hle, hri, hla⟩ := hcs
  replace h5 : M 1005 = some (.inr (5, [.ref 1001, .ref 1003, .ref 1006, .ref 1007, .int (nI (K.length + 1)), .int 1, .int 0, .int (nI sy), .int (-1), .ref ou, .ref 1208, .ref 1209, .ref 1210])) := h5
  replace ht : M (2 * K.length + 1008) = some (.inr (7, [.ref (38 + ro), .ref nm, .int mo, .int pr0, .int (nI ar), .ref (2 * K.length + 1009)])) := ht
  replace hf : M (2 * K.length + 1009) = some (.inr (8, [.int fe, .long fv, .int fa, .int fb])) := hf
  replace hle : M 1208 = some (.inr (8, [.int le, .long lv, .int l0, .int l1])) := hle
  replace hri : M 1209 = some (.inr (8, [.int re, .long rv, .int r0, .int r1])) := hri
  replace hla : M 1210 = some (.inr (8, [.int e, .long v, .int a0, .int b0])) := hla
  have tk0 := tok_ok f ha
  have tk1 := tok_ok f (show (tok f n a).2.2.1 ≤ n from by omega)
  have h160 : ∀ (nu9 : Int64) (nf9 nt9 : Int32), ((tok f n (tok f n a).2.2.1).1 = 1 → nu9 = (tok f n (tok f n a).2.2.1).2.2.2.1) → ¬ ((tok f n (tok f n a).2.2.1).2.1 = (tok f n a).2.2.1 ∧ (tok f n (tok f n a).2.2.1).1 = 3) → ¬ ((tok f n (tok f n a).2.2.1).2.1 = (tok f n a).2.2.1 ∧ (tok f n (tok f n a).2.2.1).1 = 1 ∧ (tok f n a).2.2.2.2 = 18) → ¬ (0 < kn_pf (tok f n a).2.2.2.2 ∧ kn_pf (tok f n a).2.2.2.2 ≤ c_mo ((ro, nm, mo, ar, (fe, fv, fa, fb)) :: K) ∧ c_can (tok f n (tok f n a).2.2.1) = true) → am_V G m_Rd_readName d 0 0 (fun r M1 nx1 => r = .inl none ∧ nx1 = nx ∧ cs f n M1 (c_name f n ((ro, nm, mo, ar, (fe, fv, fa, fb)) :: K, true, false, sy, -1, ou, pr, a, (le, lv, l0, l1), (re, rv, r0, r1), (e, v, a0, b0))) ∧ cs_fr M M1) 160 [(2, .int (nI (tok f n a).2.2.1)), (1, .ref ((tok f n a).2.2.2.2)), (0, .ref 1005)] [] (am_up M 1006 (.inr (6, [.ref 1001, .ref (26 + (tok f n ((tok f n a).2.2.1)).1), .int (nI (tok f n ((tok f n a).2.2.1)).2.1), .int (nI (tok f n ((tok f n a).2.2.1)).2.2.1), .long nu9, .ref ((tok f n ((tok f n a).2.2.1)).2.2.2.2), .int nf9, .int nt9]))) nx 0 0 := by
    intro nu9 nf9 nt9 hnu9 hPL hPI hPP
    refine v_aload_n (am_Dk d_Rd_readName (k := 72) rfl) rfl ?_
    have m1 : (am_up M 1006 (.inr (6, [.ref 1001, .ref (26 + (tok f n ((tok f n a).2.2.1)).1), .int (nI (tok f n ((tok f n a).2.2.1)).2.1), .int (nI (tok f n ((tok f n a).2.2.1)).2.2.1), .long nu9, .ref ((tok f n ((tok f n a).2.2.1)).2.2.2.2), .int nf9, .int nt9]))) 1005 = some (.inr (5, [.ref 1001, .ref 1003, .ref 1006, .ref 1007, .int (nI (K.length + 1)), .int 1, .int 0, .int (nI sy), .int (-1), .ref ou, .ref 1208, .ref 1209, .ref 1210])) := (am_up_ne (show 1005 ≠ 1006 from by decide)).trans (h5)
    refine v_get (am_Dk d_Rd_readName (k := 73) rfl) f_Rd_54 m1 rfl ?_
    refine v_iconst (v := 2) (am_Dk d_Rd_readName (k := 74) rfl) (by decide) ?_
    have m2 : (am_up M 1006 (.inr (6, [.ref 1001, .ref (26 + (tok f n ((tok f n a).2.2.1)).1), .int (nI (tok f n ((tok f n a).2.2.1)).2.1), .int (nI (tok f n ((tok f n a).2.2.1)).2.2.1), .long nu9, .ref ((tok f n ((tok f n a).2.2.1)).2.2.2.2), .int nf9, .int nt9]))) 1210 = some (.inr (8, [.int e, .long v, .int a0, .int b0])) := (am_up_ne (show 1210 ≠ 1006 from by decide)).trans (hla)
    refine v_callV (rest := []) (As := [.int 2]) (mc' := 0) (ms' := 0) (am_Dk d_Rd_readName (k := 75) rfl) c_Rd_179 (Or.inl ⟨_, _, _, _, _, m2, cq_ok8⟩) (t_Op_fail G (d := 0) (by omega) m2) (by omega) (by omega) (by omega) (by simp [Value.category]) rfl (fun v3 M4 n5 h6 => ?_) (fun _ _ _ h6 => ?_)
    rotate_left
    · exact absurd h6.1 (by simp)
    obtain ⟨h6, e7, e8⟩ := h6
    replace e7 := e7.symm
    replace e8 := e8.symm
    subst e7
    subst e8
    cases h6
    show am_V G _ _ _ _ _ 168 [(2, .int (nI (tok f n a).2.2.1)), (1, .ref ((tok f n a).2.2.2.2)), (0, .ref 1005)] [] (am_up (am_up M 1006 (.inr (6, [.ref 1001, .ref (26 + (tok f n ((tok f n a).2.2.1)).1), .int (nI (tok f n ((tok f n a).2.2.1)).2.1), .int (nI (tok f n ((tok f n a).2.2.1)).2.2.1), .long nu9, .ref ((tok f n ((tok f n a).2.2.1)).2.2.2.2), .int nf9, .int nt9]))) 1210 (.inr (8, [.int 2, .long 0, .int 0, .int 0]))) nx 0 0
    refine v_aload_n (am_Dk d_Rd_readName (k := 76) rfl) rfl ?_
    have m9 : (am_up (am_up M 1006 (.inr (6, [.ref 1001, .ref (26 + (tok f n ((tok f n a).2.2.1)).1), .int (nI (tok f n ((tok f n a).2.2.1)).2.1), .int (nI (tok f n ((tok f n a).2.2.1)).2.2.1), .long nu9, .ref ((tok f n ((tok f n a).2.2.1)).2.2.2.2), .int nf9, .int nt9]))) 1210 (.inr (8, [.int 2, .long 0, .int 0, .int 0]))) 1005 = some (.inr (5, [.ref 1001, .ref 1003, .ref 1006, .ref 1007, .int (nI (K.length + 1)), .int 1, .int 0, .int (nI sy), .int (-1), .ref ou, .ref 1208, .ref 1209, .ref 1210])) := (am_up_ne (show 1005 ≠ 1210 from by decide)).trans ((am_up_ne (show 1005 ≠ 1006 from by decide)).trans (h5))
    have m10 : (am_up (am_up M 1006 (.inr (6, [.ref 1001, .ref (26 + (tok f n ((tok f n a).2.2.1)).1), .int (nI (tok f n ((tok f n a).2.2.1)).2.1), .int (nI (tok f n ((tok f n a).2.2.1)).2.2.1), .long nu9, .ref ((tok f n ((tok f n a).2.2.1)).2.2.2.2), .int nf9, .int nt9]))) 1210 (.inr (8, [.int 2, .long 0, .int 0, .int 0]))) 1007 = some (.inl (4, 100, .inr (.inr (.inr (.inr (ci_arr 100)))))) := (am_up_ne (show 1007 ≠ 1210 from by decide)).trans ((am_up_ne (show 1007 ≠ 1006 from by decide)).trans (h7))
    have m11 : (am_up (am_up M 1006 (.inr (6, [.ref 1001, .ref (26 + (tok f n ((tok f n a).2.2.1)).1), .int (nI (tok f n ((tok f n a).2.2.1)).2.1), .int (nI (tok f n ((tok f n a).2.2.1)).2.2.1), .long nu9, .ref ((tok f n ((tok f n a).2.2.1)).2.2.2.2), .int nf9, .int nt9]))) 1210 (.inr (8, [.int 2, .long 0, .int 0, .int 0]))) (2 * K.length + 1008) = some (.inr (7, [.ref (38 + ro), .ref nm, .int mo, .int pr0, .int (nI ar), .ref (2 * K.length + 1009)])) := (am_up_ne (show (2 * K.length + 1008) ≠ 1210 from by omega)).trans ((am_up_ne (show (2 * K.length + 1008) ≠ 1006 from by omega)).trans (ht))
    refine v_callV (rest := []) (As := []) (mc' := 0) (ms' := 0) (am_Dk d_Rd_readName (k := 77) rfl) c_Rd_197 (Or.inl ⟨_, _, _, _, _, m9, cq_ok5⟩) (t_Rd_haveSimpleOperand G (d := 1) (j := K.length) (dp := 0) (by omega) (by omega) m9 m10 m11) (by omega) (by omega) (by omega) (by simp [Value.category]) rfl (fun v12 M13 n14 h15 => ?_) (fun _ _ _ h15 => ?_)
    rotate_left
    · exact absurd h15.1 (by simp)
    obtain ⟨h15, e16, e17⟩ := h15
    replace e16 := e16.symm
    replace e17 := e17.symm
    subst e16
    subst e17
    cases h15
    rw [nI_1]
    show am_V G _ _ _ _ _ 172 [(2, .int (nI (tok f n a).2.2.1)), (1, .ref ((tok f n a).2.2.2.2)), (0, .ref 1005)] [] (am_up (am_up (am_up (am_up M 1006 (.inr (6, [.ref 1001, .ref (26 + (tok f n ((tok f n a).2.2.1)).1), .int (nI (tok f n ((tok f n a).2.2.1)).2.1), .int (nI (tok f n ((tok f n a).2.2.1)).2.2.1), .long nu9, .ref ((tok f n ((tok f n a).2.2.1)).2.2.2.2), .int nf9, .int nt9]))) 1210 (.inr (8, [.int 2, .long 0, .int 0, .int 0]))) (2 * K.length + 1008) (.inr (7, [.ref (38 + ro), .ref nm, .int mo, .int 0, .int (nI ar), .ref (2 * K.length + 1009)]))) 1005 (.inr (5, [.ref 1001, .ref 1003, .ref 1006, .ref 1007, .int (nI (K.length + 1)), .int 0, .int 0, .int (nI (sy + 1)), .int (-1), .ref ou, .ref 1208, .ref 1209, .ref 1210]))) nx 0 0
    have hE : c_name f n ((ro, nm, mo, ar, (fe, fv, fa, fb)) :: K, true, false, sy, -1, ou, pr, a, (le, lv, l0, l1), (re, rv, r0, r1), (e, v, a0, b0)) = ((ro, nm, mo, ar, (fe, fv, fa, fb)) :: K, false, false, sy + 1, -1, ou, 0, ((tok f n a).2.2.1), (le, lv, l0, l1), (re, rv, r0, r1), (2, 0, 0, 0)) := by
      rw [c_name, if_neg hPL, if_neg hPI, if_neg hPP, c_opd]
      try rfl
    refine v_return (am_Dk d_Rd_readName (k := 78) rfl) rfl (by omega) (by omega) ⟨rfl, rfl, ?_, fun i hi => (am_up_ne (show i ≠ 1005 from by omega)).trans ((am_up_ne (show i ≠ (2 * K.length + 1008) from by omega)).trans ((am_up_ne (show i ≠ 1210 from by omega)).trans ((am_up_ne (show i ≠ 1006 from by omega)).trans (rfl))))⟩
    rw [hE]
    exact ⟨am_up_eq _ _ _, ⟨_, _, _, (am_up_ne (show 1006 ≠ 1005 from by decide)).trans ((am_up_ne (show 1006 ≠ (2 * K.length + 1008) from by omega)).trans ((am_up_ne (show 1006 ≠ 1210 from by decide)).trans (am_up_eq _ _ _))), hnu9⟩, (am_up_ne (show 1007 ≠ 1005 from by decide)).trans ((am_up_ne (show 1007 ≠ (2 * K.length + 1008) from by omega)).trans ((am_up_ne (show 1007 ≠ 1210 from by decide)).trans ((am_up_ne (show 1007 ≠ 1006 from by decide)).trans (h7)))), fun _ => (am_up_ne (show (2 * K.length + 1008) ≠ 1005 from by omega)).trans (am_up_eq _ _ _), ⟨⟨_, (am_up_ne (show (2 * K.length + 1008) ≠ 1005 from by omega)).trans (am_up_eq _ _ _)⟩, (am_up_ne (show (2 * K.length + 1009) ≠ 1005 from by omega)).trans ((am_up_ne (show (2 * K.length + 1009) ≠ (2 * K.length + 1008) from by omega)).trans ((am_up_ne (show (2 * K.length + 1009) ≠ 1210 from by omega)).trans ((am_up_ne (show (2 * K.length + 1009) ≠ 1006 from by omega)).trans (hf)))), cs_Kup hK (fun i z1 z2 => (am_up_ne (show i ≠ 1005 from by omega)).trans ((am_up_ne (show i ≠ (2 * K.length + 1008) from by omega)).trans ((am_up_ne (show i ≠ 1210 from by omega)).trans ((am_up_ne (show i ≠ 1006 from by omega)).trans (rfl)))))⟩, cs_Xup hX (fun i (z1 : 2 * (K.length + 1) + 1008 ≤ i) z2 => (am_up_ne (show i ≠ 1005 from by omega)).trans ((am_up_ne (show i ≠ (2 * K.length + 1008) from by omega)).trans ((am_up_ne (show i ≠ 1210 from by omega)).trans ((am_up_ne (show i ≠ 1006 from by omega)).trans (rfl))))), (am_up_ne (show 1208 ≠ 1005 from by decide)).trans ((am_up_ne (show 1208 ≠ (2 * K.length + 1008) from by omega)).trans ((am_up_ne (show 1208 ≠ 1210 from by decide)).trans ((am_up_ne (show 1208 ≠ 1006 from by decide)).trans (hle)))), (am_up_ne (show 1209 ≠ 1005 from by decide)).trans ((am_up_ne (show 1209 ≠ (2 * K.length + 1008) from by omega)).trans ((am_up_ne (show 1209 ≠ 1210 from by decide)).trans ((am_up_ne (show 1209 ≠ 1006 from by decide)).trans (hri)))), (am_up_ne (show 1210 ≠ 1005 from by decide)).trans ((am_up_ne (show 1210 ≠ (2 * K.length + 1008) from by omega)).trans (am_up_eq _ _ _))⟩
  have h117 : ∀ (nu9 : Int64) (nf9 nt9 : Int32), ((tok f n (tok f n a).2.2.1).1 = 1 → nu9 = (tok f n (tok f n a).2.2.1).2.2.2.1) → ¬ ((tok f n (tok f n a).2.2.1).2.1 = (tok f n a).2.2.1 ∧ (tok f n (tok f n a).2.2.1).1 = 3) → ¬ ((tok f n (tok f n a).2.2.1).2.1 = (tok f n a).2.2.1 ∧ (tok f n (tok f n a).2.2.1).1 = 1 ∧ (tok f n a).2.2.2.2 = 18) → am_V G m_Rd_readName d 0 0 (fun r M1 nx1 => r = .inl none ∧ nx1 = nx ∧ cs f n M1 (c_name f n ((ro, nm, mo, ar, (fe, fv, fa, fb)) :: K, true, false, sy, -1, ou, pr, a, (le, lv, l0, l1), (re, rv, r0, r1), (e, v, a0, b0))) ∧ cs_fr M M1) 117 [(2, .int (nI (tok f n a).2.2.1)), (1, .ref ((tok f n a).2.2.2.2)), (0, .ref 1005)] [] (am_up M 1006 (.inr (6, [.ref 1001, .ref (26 + (tok f n ((tok f n a).2.2.1)).1), .int (nI (tok f n ((tok f n a).2.2.1)).2.1), .int (nI (tok f n ((tok f n a).2.2.1)).2.2.1), .long nu9, .ref ((tok f n ((tok f n a).2.2.1)).2.2.2.2), .int nf9, .int nt9]))) nx 0 0 := by
    intro nu9 nf9 nt9 hnu9 hPL hPI
    refine v_aload_n (am_Dk d_Rd_readName (k := 53) rfl) rfl ?_
    refine v_getK (i := (tok f n a).2.2.2.2) (v := .int (kn_pf ((tok f n a).2.2.2.2))) (am_Dk d_Rd_readName (k := 54) rfl) g_Rd_213 (Or.inl rfl) (kn_pf_k _ (by omega)) ?_
    refine v_if_le (tgt := 160) (am_Dk d_Rd_readName (k := 55) rfl) (by decide) (fun c1 => ?_) (fun c1 => ?_)
    · have hPP : ¬ (0 < kn_pf (tok f n a).2.2.2.2 ∧ kn_pf (tok f n a).2.2.2.2 ≤ c_mo ((ro, nm, mo, ar, (fe, fv, fa, fb)) :: K) ∧ c_can (tok f n (tok f n a).2.2.1) = true) := fun z => absurd z.1 (Int32.not_lt.mpr c1)
      exact h160 nu9 nf9 nt9 hnu9 hPL hPI (by assumption)
    · have p1 := Int32.not_le.mp c1
      refine v_aload_n (am_Dk d_Rd_readName (k := 56) rfl) rfl ?_
      refine v_getK (i := (tok f n a).2.2.2.2) (v := .int (kn_pf ((tok f n a).2.2.2.2))) (am_Dk d_Rd_readName (k := 57) rfl) g_Rd_213 (Or.inl rfl) (kn_pf_k _ (by omega)) ?_
      refine v_aload_n (am_Dk d_Rd_readName (k := 58) rfl) rfl ?_
      have m2 : (am_up M 1006 (.inr (6, [.ref 1001, .ref (26 + (tok f n ((tok f n a).2.2.1)).1), .int (nI (tok f n ((tok f n a).2.2.1)).2.1), .int (nI (tok f n ((tok f n a).2.2.1)).2.2.1), .long nu9, .ref ((tok f n ((tok f n a).2.2.1)).2.2.2.2), .int nf9, .int nt9]))) 1005 = some (.inr (5, [.ref 1001, .ref 1003, .ref 1006, .ref 1007, .int (nI (K.length + 1)), .int 1, .int 0, .int (nI sy), .int (-1), .ref ou, .ref 1208, .ref 1209, .ref 1210])) := (am_up_ne (show 1005 ≠ 1006 from by decide)).trans (h5)
      have m3 : (am_up M 1006 (.inr (6, [.ref 1001, .ref (26 + (tok f n ((tok f n a).2.2.1)).1), .int (nI (tok f n ((tok f n a).2.2.1)).2.1), .int (nI (tok f n ((tok f n a).2.2.1)).2.2.1), .long nu9, .ref ((tok f n ((tok f n a).2.2.1)).2.2.2.2), .int nf9, .int nt9]))) 1007 = some (.inl (4, 100, .inr (.inr (.inr (.inr (ci_arr 100)))))) := (am_up_ne (show 1007 ≠ 1006 from by decide)).trans (h7)
      refine v_callV (rest := [.int (kn_pf ((tok f n a).2.2.2.2))]) (As := []) (mc' := 0) (ms' := 0) (am_Dk d_Rd_readName (k := 59) rfl) c_Rd_127 (Or.inl ⟨_, _, _, _, _, m2, cq_ok5⟩) (t_Rd_innermost G (d := 0) (j := K.length) (dp := 0) (by omega) (by omega) m2 m3) (by omega) (by omega) (by omega) (by simp [Value.category]) rfl (fun v4 M5 n6 h7 => ?_) (fun _ _ _ h7 => ?_)
      rotate_left
      · exact absurd h7.1 (by simp)
      obtain ⟨h7, e8, e9⟩ := h7
      replace e8 := e8.symm
      replace e9 := e9.symm
      subst e8
      subst e9
      cases h7
      show am_V G _ _ _ _ _ 132 [(2, .int (nI (tok f n a).2.2.1)), (1, .ref ((tok f n a).2.2.2.2)), (0, .ref 1005)] [.ref (2 * K.length + 1008), .int (kn_pf ((tok f n a).2.2.2.2))] (am_up M 1006 (.inr (6, [.ref 1001, .ref (26 + (tok f n ((tok f n a).2.2.1)).1), .int (nI (tok f n ((tok f n a).2.2.1)).2.1), .int (nI (tok f n ((tok f n a).2.2.1)).2.2.1), .long nu9, .ref ((tok f n ((tok f n a).2.2.1)).2.2.2.2), .int nf9, .int nt9]))) nx 0 0
      have m10 : (am_up M 1006 (.inr (6, [.ref 1001, .ref (26 + (tok f n ((tok f n a).2.2.1)).1), .int (nI (tok f n ((tok f n a).2.2.1)).2.1), .int (nI (tok f n ((tok f n a).2.2.1)).2.2.1), .long nu9, .ref ((tok f n ((tok f n a).2.2.1)).2.2.2.2), .int nf9, .int nt9]))) (2 * K.length + 1008) = some (.inr (7, [.ref (38 + ro), .ref nm, .int mo, .int pr0, .int (nI ar), .ref (2 * K.length + 1009)])) := (am_up_ne (show (2 * K.length + 1008) ≠ 1006 from by omega)).trans (ht)
      refine v_get (am_Dk d_Rd_readName (k := 60) rfl) f_Rd_115 m10 rfl ?_
      refine v_icmp_gt (tgt := 160) (am_Dk d_Rd_readName (k := 61) rfl) (by decide) (fun c11 => ?_) (fun c11 => ?_)
      · have hPP : ¬ (0 < kn_pf (tok f n a).2.2.2.2 ∧ kn_pf (tok f n a).2.2.2.2 ≤ c_mo ((ro, nm, mo, ar, (fe, fv, fa, fb)) :: K) ∧ c_can (tok f n (tok f n a).2.2.1) = true) := fun z => absurd (show kn_pf (tok f n a).2.2.2.2 ≤ mo from z.2.1) (Int32.not_le.mpr c11)
        exact h160 nu9 nf9 nt9 hnu9 hPL hPI (by assumption)
      · have p2 := Int32.not_lt.mp c11
        refine v_aload_n (am_Dk d_Rd_readName (k := 62) rfl) rfl ?_
        have m12 : (am_up M 1006 (.inr (6, [.ref 1001, .ref (26 + (tok f n ((tok f n a).2.2.1)).1), .int (nI (tok f n ((tok f n a).2.2.1)).2.1), .int (nI (tok f n ((tok f n a).2.2.1)).2.2.1), .long nu9, .ref ((tok f n ((tok f n a).2.2.1)).2.2.2.2), .int nf9, .int nt9]))) 1001 = some (.inr (1, [.ref 1002, .int (nI n)])) := (am_up_ne (show 1001 ≠ 1006 from by decide)).trans (h1)
        have m13 : (am_up M 1006 (.inr (6, [.ref 1001, .ref (26 + (tok f n ((tok f n a).2.2.1)).1), .int (nI (tok f n ((tok f n a).2.2.1)).2.1), .int (nI (tok f n ((tok f n a).2.2.1)).2.2.1), .long nu9, .ref ((tok f n ((tok f n a).2.2.1)).2.2.2.2), .int nf9, .int nt9]))) 1002 = some (.inl (0, 4096, .inl f)) := (am_up_ne (show 1002 ≠ 1006 from by decide)).trans (h2)
        have m14 : (am_up M 1006 (.inr (6, [.ref 1001, .ref (26 + (tok f n ((tok f n a).2.2.1)).1), .int (nI (tok f n ((tok f n a).2.2.1)).2.1), .int (nI (tok f n ((tok f n a).2.2.1)).2.2.1), .long nu9, .ref ((tok f n ((tok f n a).2.2.1)).2.2.2.2), .int nf9, .int nt9]))) 1006 = some (.inr (6, [.ref 1001, .ref (26 + (tok f n ((tok f n a).2.2.1)).1), .int (nI (tok f n ((tok f n a).2.2.1)).2.1), .int (nI (tok f n ((tok f n a).2.2.1)).2.2.1), .long nu9, .ref ((tok f n ((tok f n a).2.2.1)).2.2.2.2), .int nf9, .int nt9])) := am_up_eq _ _ _
        refine v_callV (rest := []) (As := []) (mc' := 0) (ms' := 0) (am_Dk d_Rd_readName (k := 63) rfl) c_Rd_216 (Or.inl ⟨_, _, _, _, _, m2, cq_ok5⟩) (t_Rd_canTermBegin G (d := 1) (a := ((tok f n a).2.2.1)) (by omega) m12 m13 hn (by omega) m2 m14) (by omega) (by omega) (by omega) (by simp [Value.category]) rfl (fun v15 M16 n17 h18 => ?_) (fun _ _ _ h18 => ?_)
        rotate_left
        · exact absurd h18.1 (by simp)
        obtain ⟨h18, e19, e20⟩ := h18
        replace e19 := e19.symm
        replace e20 := e20.symm
        subst e19
        subst e20
        cases h18
        show am_V G _ _ _ _ _ 142 [(2, .int (nI (tok f n a).2.2.1)), (1, .ref ((tok f n a).2.2.2.2)), (0, .ref 1005)] [.int (bi (c_can (tok f n ((tok f n a).2.2.1))))] (am_up M 1006 (.inr (6, [.ref 1001, .ref (26 + (tok f n ((tok f n a).2.2.1)).1), .int (nI (tok f n ((tok f n a).2.2.1)).2.1), .int (nI (tok f n ((tok f n a).2.2.1)).2.2.1), .long nu9, .ref ((tok f n ((tok f n a).2.2.1)).2.2.2.2), .int nf9, .int nt9]))) nx 0 0
        refine v_if_eq (tgt := 160) (am_Dk d_Rd_readName (k := 64) rfl) (by decide) (fun c21 => ?_) (fun c21 => ?_)
        · have hPP : ¬ (0 < kn_pf (tok f n a).2.2.2.2 ∧ kn_pf (tok f n a).2.2.2.2 ≤ c_mo ((ro, nm, mo, ar, (fe, fv, fa, fb)) :: K) ∧ c_can (tok f n (tok f n a).2.2.1) = true) := fun z => by rw [bi0.mp c21] at z; exact absurd z.2.2 (by decide)
          exact h160 nu9 nf9 nt9 hnu9 hPL hPI (by assumption)
        · have hPP : (0 < kn_pf (tok f n a).2.2.2.2 ∧ kn_pf (tok f n a).2.2.2.2 ≤ c_mo ((ro, nm, mo, ar, (fe, fv, fa, fb)) :: K) ∧ c_can (tok f n (tok f n a).2.2.1) = true) := ⟨p1, p2, bi1 c21⟩
          refine v_aload_n (am_Dk d_Rd_readName (k := 65) rfl) rfl ?_
          refine v_gets (v := .ref 40) (am_Dk d_Rd_readName (k := 66) rfl) s_Rd_220 (by decide +kernel) ?_
          refine v_aload_n (am_Dk d_Rd_readName (k := 67) rfl) rfl ?_
          refine v_aload_n (am_Dk d_Rd_readName (k := 68) rfl) rfl ?_
          refine v_getK (i := (tok f n a).2.2.2.2) (v := .int (kn_pf ((tok f n a).2.2.2.2))) (am_Dk d_Rd_readName (k := 69) rfl) g_Rd_213 (Or.inl rfl) (kn_pf_k _ (by omega)) ?_
          have m22 : (am_up M 1006 (.inr (6, [.ref 1001, .ref (26 + (tok f n ((tok f n a).2.2.1)).1), .int (nI (tok f n ((tok f n a).2.2.1)).2.1), .int (nI (tok f n ((tok f n a).2.2.1)).2.2.1), .long nu9, .ref ((tok f n ((tok f n a).2.2.1)).2.2.2.2), .int nf9, .int nt9]))) 1210 = some (.inr (8, [.int e, .long v, .int a0, .int b0])) := (am_up_ne (show 1210 ≠ 1006 from by decide)).trans (hla)
          refine v_callV (rest := []) (As := [.ref 40, .ref ((tok f n a).2.2.2.2), .int (kn_pf ((tok f n a).2.2.2.2))]) (mc' := 0) (ms' := 0) (am_Dk d_Rd_readName (k := 70) rfl) c_Rd_81 (Or.inl ⟨_, _, _, _, _, m2, cq_ok5⟩) (t_Rd_begin G (d := 1) (j := K.length + 1) (dp := 0) (by omega) (by omega) m2 m14 m3 m22 (fun z => cs_Xup hX (fun i (z1 : 2 * (K.length + 1) + 1008 ≤ i) z2 => (am_up_ne (show i ≠ 1006 from by omega)).trans (rfl)) _ (Nat.le_refl _) z)) (by omega) (by omega) (by omega) (by simp [Value.category]) rfl (fun v23 M24 n25 h26 => ?_) (fun v23 M24 n25 h26 => ?_)
          · rcases h26 with ⟨hj9, h26, e1, e2⟩ | ⟨hj9, h26, ⟨ro9, tn9, mo9, pr9, ar9, e9, v9, a9, b9, hx1, hx2, e1⟩, e2⟩
            · cases h26
              replace e1 := e1.symm
              replace e2 := e2.symm
              subst e1
              subst e2
              show am_V G _ _ _ _ _ 157 [(2, .int (nI (tok f n a).2.2.1)), (1, .ref ((tok f n a).2.2.2.2)), (0, .ref 1005)] [] (am_up (am_up M 1006 (.inr (6, [.ref 1001, .ref (26 + (tok f n ((tok f n a).2.2.1)).1), .int (nI (tok f n ((tok f n a).2.2.1)).2.1), .int (nI (tok f n ((tok f n a).2.2.1)).2.2.1), .long nu9, .ref ((tok f n ((tok f n a).2.2.1)).2.2.2.2), .int nf9, .int nt9]))) 1005 (.inr (5, [.ref 1001, .ref 1003, .ref 1006, .ref 1007, .int (nI (K.length + 1)), .int 1, .int 0, .int (nI sy), .int (nI (tok f n ((tok f n a).2.2.1)).2.1), .ref ou, .ref 1208, .ref 1209, .ref 1210]))) nx 0 0
              refine v_goto (tgt := 172) (am_Dk d_Rd_readName (k := 71) rfl) (by decide) ?_
              have hE : c_name f n ((ro, nm, mo, ar, (fe, fv, fa, fb)) :: K, true, false, sy, -1, ou, pr, a, (le, lv, l0, l1), (re, rv, r0, r1), (e, v, a0, b0)) = ((ro, nm, mo, ar, (fe, fv, fa, fb)) :: K, true, false, sy, nI (tok f n ((tok f n a).2.2.1)).2.1, ou, pr, ((tok f n a).2.2.1), (le, lv, l0, l1), (re, rv, r0, r1), (e, v, a0, b0)) := by
                rw [c_name, if_neg hPL, if_neg hPI, if_pos hPP, c_beg, if_neg (show ¬ (_ :: _).length < 100 from by show ¬ K.length + 1 < 100; omega)]
                try rfl
              refine v_return (am_Dk d_Rd_readName (k := 78) rfl) rfl (by omega) (by omega) ⟨rfl, rfl, ?_, fun i hi => (am_up_ne (show i ≠ 1005 from by omega)).trans ((am_up_ne (show i ≠ 1006 from by omega)).trans (rfl))⟩
              rw [hE]
              exact ⟨am_up_eq _ _ _, ⟨_, _, _, (am_up_ne (show 1006 ≠ 1005 from by decide)).trans (am_up_eq _ _ _), hnu9⟩, (am_up_ne (show 1007 ≠ 1005 from by decide)).trans ((am_up_ne (show 1007 ≠ 1006 from by decide)).trans (h7)), fun z => absurd z (by decide), ⟨⟨_, (am_up_ne (show (2 * K.length + 1008) ≠ 1005 from by omega)).trans ((am_up_ne (show (2 * K.length + 1008) ≠ 1006 from by omega)).trans (ht))⟩, (am_up_ne (show (2 * K.length + 1009) ≠ 1005 from by omega)).trans ((am_up_ne (show (2 * K.length + 1009) ≠ 1006 from by omega)).trans (hf)), cs_Kup hK (fun i z1 z2 => (am_up_ne (show i ≠ 1005 from by omega)).trans ((am_up_ne (show i ≠ 1006 from by omega)).trans (rfl)))⟩, cs_Xup hX (fun i (z1 : 2 * (K.length + 1) + 1008 ≤ i) z2 => (am_up_ne (show i ≠ 1005 from by omega)).trans ((am_up_ne (show i ≠ 1006 from by omega)).trans (rfl))), (am_up_ne (show 1208 ≠ 1005 from by decide)).trans ((am_up_ne (show 1208 ≠ 1006 from by decide)).trans (hle)), (am_up_ne (show 1209 ≠ 1005 from by decide)).trans ((am_up_ne (show 1209 ≠ 1006 from by decide)).trans (hri)), (am_up_ne (show 1210 ≠ 1005 from by decide)).trans ((am_up_ne (show 1210 ≠ 1006 from by decide)).trans (hla))⟩
            · cases h26
              replace e1 := e1.symm
              replace e2 := e2.symm
              subst e1
              subst e2
              show am_V G _ _ _ _ _ 157 [(2, .int (nI (tok f n a).2.2.1)), (1, .ref ((tok f n a).2.2.2.2)), (0, .ref 1005)] [] (am_up (am_up (am_up (am_up M 1006 (.inr (6, [.ref 1001, .ref (26 + (tok f n ((tok f n a).2.2.1)).1), .int (nI (tok f n ((tok f n a).2.2.1)).2.1), .int (nI (tok f n ((tok f n a).2.2.1)).2.2.1), .long nu9, .ref ((tok f n ((tok f n a).2.2.1)).2.2.2.2), .int nf9, .int nt9]))) (2 * (K.length + 1) + 1008) (.inr (7, [.ref 40, .ref ((tok f n a).2.2.2.2), .int (kn_pf ((tok f n a).2.2.2.2)), .int pr9, .int 0, .ref (2 * (K.length + 1) + 1009)]))) (2 * (K.length + 1) + 1009) (.inr (8, [.int e, .long v, .int a0, .int b0]))) 1005 (.inr (5, [.ref 1001, .ref 1003, .ref 1006, .ref 1007, .int (nI (K.length + 2)), .int 1, .int 0, .int (nI sy), .int (-1), .ref ou, .ref 1208, .ref 1209, .ref 1210]))) nx 0 0
              refine v_goto (tgt := 172) (am_Dk d_Rd_readName (k := 71) rfl) (by decide) ?_
              have hE : c_name f n ((ro, nm, mo, ar, (fe, fv, fa, fb)) :: K, true, false, sy, -1, ou, pr, a, (le, lv, l0, l1), (re, rv, r0, r1), (e, v, a0, b0)) = ((2, (tok f n a).2.2.2.2, kn_pf ((tok f n a).2.2.2.2), 0, (e, v, a0, b0)) :: (ro, nm, mo, ar, (fe, fv, fa, fb)) :: K, true, false, sy, -1, ou, 0, ((tok f n a).2.2.1), (le, lv, l0, l1), (re, rv, r0, r1), (e, v, a0, b0)) := by
                rw [c_name, if_neg hPL, if_neg hPI, if_pos hPP, c_beg, if_pos (show (_ :: _).length < 100 from by show K.length + 1 < 100; omega)]
                try rfl
              refine v_return (am_Dk d_Rd_readName (k := 78) rfl) rfl (by omega) (by omega) ⟨rfl, rfl, ?_, fun i hi => (am_up_ne (show i ≠ 1005 from by omega)).trans ((am_up_ne (show i ≠ (2 * (K.length + 1) + 1009) from by omega)).trans ((am_up_ne (show i ≠ (2 * (K.length + 1) + 1008) from by omega)).trans ((am_up_ne (show i ≠ 1006 from by omega)).trans (rfl))))⟩
              rw [hE]
              exact ⟨am_up_eq _ _ _, ⟨_, _, _, (am_up_ne (show 1006 ≠ 1005 from by decide)).trans ((am_up_ne (show 1006 ≠ (2 * (K.length + 1) + 1009) from by omega)).trans ((am_up_ne (show 1006 ≠ (2 * (K.length + 1) + 1008) from by omega)).trans (am_up_eq _ _ _))), hnu9⟩, (am_up_ne (show 1007 ≠ 1005 from by decide)).trans ((am_up_ne (show 1007 ≠ (2 * (K.length + 1) + 1009) from by omega)).trans ((am_up_ne (show 1007 ≠ (2 * (K.length + 1) + 1008) from by omega)).trans ((am_up_ne (show 1007 ≠ 1006 from by decide)).trans (h7)))), fun z => absurd z (by decide), ⟨⟨_, (am_up_ne (show (2 * (K.length + 1) + 1008) ≠ 1005 from by omega)).trans ((am_up_ne (show (2 * (K.length + 1) + 1008) ≠ (2 * (K.length + 1) + 1009) from by omega)).trans (am_up_eq _ _ _))⟩, (am_up_ne (show (2 * (K.length + 1) + 1009) ≠ 1005 from by omega)).trans (am_up_eq _ _ _), ⟨_, (am_up_ne (show (2 * K.length + 1008) ≠ 1005 from by omega)).trans ((am_up_ne (show (2 * K.length + 1008) ≠ (2 * (K.length + 1) + 1009) from by omega)).trans ((am_up_ne (show (2 * K.length + 1008) ≠ (2 * (K.length + 1) + 1008) from by omega)).trans ((am_up_ne (show (2 * K.length + 1008) ≠ 1006 from by omega)).trans (ht))))⟩, (am_up_ne (show (2 * K.length + 1009) ≠ 1005 from by omega)).trans ((am_up_ne (show (2 * K.length + 1009) ≠ (2 * (K.length + 1) + 1009) from by omega)).trans ((am_up_ne (show (2 * K.length + 1009) ≠ (2 * (K.length + 1) + 1008) from by omega)).trans ((am_up_ne (show (2 * K.length + 1009) ≠ 1006 from by omega)).trans (hf)))), cs_Kup hK (fun i z1 z2 => (am_up_ne (show i ≠ 1005 from by omega)).trans ((am_up_ne (show i ≠ (2 * (K.length + 1) + 1009) from by omega)).trans ((am_up_ne (show i ≠ (2 * (K.length + 1) + 1008) from by omega)).trans ((am_up_ne (show i ≠ 1006 from by omega)).trans (rfl)))))⟩, cs_Xup (cs_Xmo hX (Nat.le_succ _)) (fun i (z1 : 2 * (K.length + 2) + 1008 ≤ i) z2 => (am_up_ne (show i ≠ 1005 from by omega)).trans ((am_up_ne (show i ≠ (2 * (K.length + 1) + 1009) from by omega)).trans ((am_up_ne (show i ≠ (2 * (K.length + 1) + 1008) from by omega)).trans ((am_up_ne (show i ≠ 1006 from by omega)).trans (rfl))))), (am_up_ne (show 1208 ≠ 1005 from by decide)).trans ((am_up_ne (show 1208 ≠ (2 * (K.length + 1) + 1009) from by omega)).trans ((am_up_ne (show 1208 ≠ (2 * (K.length + 1) + 1008) from by omega)).trans ((am_up_ne (show 1208 ≠ 1006 from by decide)).trans (hle)))), (am_up_ne (show 1209 ≠ 1005 from by decide)).trans ((am_up_ne (show 1209 ≠ (2 * (K.length + 1) + 1009) from by omega)).trans ((am_up_ne (show 1209 ≠ (2 * (K.length + 1) + 1008) from by omega)).trans ((am_up_ne (show 1209 ≠ 1006 from by decide)).trans (hri)))), (am_up_ne (show 1210 ≠ 1005 from by decide)).trans ((am_up_ne (show 1210 ≠ (2 * (K.length + 1) + 1009) from by omega)).trans ((am_up_ne (show 1210 ≠ (2 * (K.length + 1) + 1008) from by omega)).trans ((am_up_ne (show 1210 ≠ 1006 from by decide)).trans (hla))))⟩
          · rcases h26 with ⟨hj9, h26, e1, e2⟩ | ⟨hj9, h26, ⟨ro9, tn9, mo9, pr9, ar9, e9, v9, a9, b9, hx1, hx2, e1⟩, e2⟩
            · cases h26
            · cases h26
  refine v_aload_n (am_Dk d_Rd_readName (k := 0) rfl) rfl ?_
  refine v_get (am_Dk d_Rd_readName (k := 1) rfl) f_Rd_24 h5 rfl ?_
  refine v_get (am_Dk d_Rd_readName (k := 2) rfl) f_Rd_200 h6 rfl ?_
  refine v_astore_n (L1 := [(1, .ref ((tok f n a).2.2.2.2)), (0, .ref 1005)]) (am_Dk d_Rd_readName (k := 3) rfl) (by decide) rfl ?_
  refine v_aload_n (am_Dk d_Rd_readName (k := 4) rfl) rfl ?_
  refine v_get (am_Dk d_Rd_readName (k := 5) rfl) f_Rd_24 h5 rfl ?_
  refine v_get (am_Dk d_Rd_readName (k := 6) rfl) f_Rd_170 h6 rfl ?_
  refine v_istore_n (L1 := [(2, .int (nI (tok f n a).2.2.1)), (1, .ref ((tok f n a).2.2.2.2)), (0, .ref 1005)]) (am_Dk d_Rd_readName (k := 7) rfl) (by decide) rfl ?_
  refine v_aload_n (am_Dk d_Rd_readName (k := 8) rfl) rfl ?_
  refine v_get (am_Dk d_Rd_readName (k := 9) rfl) f_Rd_24 h5 rfl ?_
  refine v_callV (rest := []) (As := []) (mc' := 0) (ms' := 0) (am_Dk d_Rd_readName (k := 10) rfl) c_Rd_155 (Or.inl ⟨_, _, _, _, _, h6, cq_ok6⟩) (t_Sg_next G (d := 6) (a := (tok f n a).2.2.1) (by omega) h1 h2 (by omega) (by omega) h6) (by omega) (by omega) (by omega) (by simp [Value.category]) rfl (fun v1 M2 n3 h4 => ?_) (fun _ _ _ h4 => ?_)
  rotate_left
  · exact absurd h4.1 (by simp)
  obtain ⟨h4, e9, nu5, nf6, nt7, e8, hv10⟩ := h4
  replace e8 := e8.symm
  replace e9 := e9.symm
  subst e8
  subst e9
  cases h4
  show am_V G _ _ _ _ _ 23 [(2, .int (nI (tok f n a).2.2.1)), (1, .ref ((tok f n a).2.2.2.2)), (0, .ref 1005)] [] (am_up M 1006 (.inr (6, [.ref 1001, .ref (26 + (tok f n ((tok f n a).2.2.1)).1), .int (nI (tok f n ((tok f n a).2.2.1)).2.1), .int (nI (tok f n ((tok f n a).2.2.1)).2.2.1), .long nu5, .ref ((tok f n ((tok f n a).2.2.1)).2.2.2.2), .int nf6, .int nt7]))) nx 0 0
  have tk_h4 := tok_ok f (show (tok f n a).2.2.1 ≤ n from by omega)
  refine v_aload_n (am_Dk d_Rd_readName (k := 11) rfl) rfl ?_
  have m11 : (am_up M 1006 (.inr (6, [.ref 1001, .ref (26 + (tok f n ((tok f n a).2.2.1)).1), .int (nI (tok f n ((tok f n a).2.2.1)).2.1), .int (nI (tok f n ((tok f n a).2.2.1)).2.2.1), .long nu5, .ref ((tok f n ((tok f n a).2.2.1)).2.2.2.2), .int nf6, .int nt7]))) 1005 = some (.inr (5, [.ref 1001, .ref 1003, .ref 1006, .ref 1007, .int (nI (K.length + 1)), .int 1, .int 0, .int (nI sy), .int (-1), .ref ou, .ref 1208, .ref 1209, .ref 1210])) := (am_up_ne (show 1005 ≠ 1006 from by decide)).trans (h5)
  refine v_get (am_Dk d_Rd_readName (k := 12) rfl) f_Rd_24 m11 rfl ?_
  have m12 : (am_up M 1006 (.inr (6, [.ref 1001, .ref (26 + (tok f n ((tok f n a).2.2.1)).1), .int (nI (tok f n ((tok f n a).2.2.1)).2.1), .int (nI (tok f n ((tok f n a).2.2.1)).2.2.1), .long nu5, .ref ((tok f n ((tok f n a).2.2.1)).2.2.2.2), .int nf6, .int nt7]))) 1006 = some (.inr (6, [.ref 1001, .ref (26 + (tok f n ((tok f n a).2.2.1)).1), .int (nI (tok f n ((tok f n a).2.2.1)).2.1), .int (nI (tok f n ((tok f n a).2.2.1)).2.2.1), .long nu5, .ref ((tok f n ((tok f n a).2.2.1)).2.2.2.2), .int nf6, .int nt7])) := am_up_eq _ _ _
  refine v_get (am_Dk d_Rd_readName (k := 13) rfl) f_Rd_74 m12 rfl ?_
  refine v_iload_n (am_Dk d_Rd_readName (k := 14) rfl) rfl ?_
  refine v_icmp_ne (tgt := 38) (am_Dk d_Rd_readName (k := 15) rfl) (by decide) (fun c13 => ?_) (fun c13 => ?_)
  · have Nc13 : ¬ ((tok f n (tok f n a).2.2.1).2.1) = ((tok f n a).2.2.1) := fun z => c13 ((nI_eq (a := (tok f n (tok f n a).2.2.1).2.1) (b := (tok f n a).2.2.1) (by omega) (by omega)).mpr z)
    have hPL : ¬ ((tok f n (tok f n a).2.2.1).2.1 = (tok f n a).2.2.1 ∧ (tok f n (tok f n a).2.2.1).1 = 3) := fun z => Nc13 z.1
    have hPI : ¬ ((tok f n (tok f n a).2.2.1).2.1 = (tok f n a).2.2.1 ∧ (tok f n (tok f n a).2.2.1).1 = 1 ∧ (tok f n a).2.2.2.2 = 18) := fun z => Nc13 z.1
    refine v_iconst (v := 0) (am_Dk d_Rd_readName (k := 18) rfl) (by decide) ?_
    refine v_istore_n (L1 := [(3, .int 0), (2, .int (nI (tok f n a).2.2.1)), (1, .ref ((tok f n a).2.2.2.2)), (0, .ref 1005)]) (am_Dk d_Rd_readName (k := 19) rfl) (by decide) rfl ?_
    refine v_iload_n (am_Dk d_Rd_readName (k := 20) rfl) rfl ?_
    refine v_if_eq (tgt := 78) (am_Dk d_Rd_readName (k := 21) rfl) (by decide) (fun c14 => ?_) (fun c14 => ?_)
    · have Nc14 := (nI_eq (a := 0) (b := 0) (by omega) (by omega)).mp c14
      refine v_iload_n (am_Dk d_Rd_readName (k := 36) rfl) rfl ?_
      refine v_if_eq (tgt := 117) (am_Dk d_Rd_readName (k := 37) rfl) (by decide) (fun c15 => ?_) (fun c15 => ?_)
      · have Nc15 := (nI_eq (a := 0) (b := 0) (by omega) (by omega)).mp c15
        exact v_drop (h117 _ _ _ hv10 hPL hPI) (fun q hq => by simp only [List.mem_cons, List.not_mem_nil, or_false] at hq ⊢; rcases hq with h | h | h <;> simp [h])
      · exact absurd (by decide) c15
    · exact absurd (by decide) c14
  · have Nc13 := (nI_eq (a := (tok f n (tok f n a).2.2.1).2.1) (b := (tok f n a).2.2.1) (by omega) (by omega)).mp c13
    have hB9 : (tok f n (tok f n a).2.2.1).2.1 = (tok f n a).2.2.1 := by omega
    refine v_iconst (v := 1) (am_Dk d_Rd_readName (k := 16) rfl) (by decide) ?_
    refine v_goto (tgt := 39) (am_Dk d_Rd_readName (k := 17) rfl) (by decide) ?_
    refine v_istore_n (L1 := [(3, .int 1), (2, .int (nI (tok f n a).2.2.1)), (1, .ref ((tok f n a).2.2.2.2)), (0, .ref 1005)]) (am_Dk d_Rd_readName (k := 19) rfl) (by decide) rfl ?_
    refine v_iload_n (am_Dk d_Rd_readName (k := 20) rfl) rfl ?_
    refine v_if_eq (tgt := 78) (am_Dk d_Rd_readName (k := 21) rfl) (by decide) (fun c16 => ?_) (fun c16 => ?_)
    · exact absurd c16 (by decide)
    · have Nc16 : ¬ 1 = 0 := fun z => c16 ((nI_eq (a := 1) (b := 0) (by omega) (by omega)).mpr z)
      refine v_aload_n (am_Dk d_Rd_readName (k := 22) rfl) rfl ?_
      refine v_get (am_Dk d_Rd_readName (k := 23) rfl) f_Rd_24 m11 rfl ?_
      refine v_get (am_Dk d_Rd_readName (k := 24) rfl) f_Rd_91 m12 rfl ?_
      refine v_gets (v := .ref 29) (am_Dk d_Rd_readName (k := 25) rfl) s_Rd_201 (by decide +kernel) ?_
      refine v_acmp_ne (rx := (some (26 + (tok f n ((tok f n a).2.2.1)).1))) (ry := (some 29)) (tgt := 78) (am_Dk d_Rd_readName (k := 26) rfl) rfl rfl (by decide) (en_K ⟨by omega, by omega⟩ ⟨by decide, by decide⟩) (fun c17 => ?_) (fun c17 => ?_)
      · have K3_c17 : ¬ (tok f n ((tok f n a).2.2.1)).1 = 3 := fun z => c17 (by rw [z])
        have hPL : ¬ ((tok f n (tok f n a).2.2.1).2.1 = (tok f n a).2.2.1 ∧ (tok f n (tok f n a).2.2.1).1 = 3) := fun z => K3_c17 z.2
        refine v_iload_n (am_Dk d_Rd_readName (k := 36) rfl) rfl ?_
        refine v_if_eq (tgt := 117) (am_Dk d_Rd_readName (k := 37) rfl) (by decide) (fun c18 => ?_) (fun c18 => ?_)
        · exact absurd c18 (by decide)
        · have Nc18 : ¬ 1 = 0 := fun z => c18 ((nI_eq (a := 1) (b := 0) (by omega) (by omega)).mpr z)
          refine v_aload_n (am_Dk d_Rd_readName (k := 38) rfl) rfl ?_
          refine v_get (am_Dk d_Rd_readName (k := 39) rfl) f_Rd_24 m11 rfl ?_
          refine v_get (am_Dk d_Rd_readName (k := 40) rfl) f_Rd_91 m12 rfl ?_
          refine v_gets (v := .ref 27) (am_Dk d_Rd_readName (k := 41) rfl) s_Rd_207 (by decide +kernel) ?_
          refine v_acmp_ne (rx := (some (26 + (tok f n ((tok f n a).2.2.1)).1))) (ry := (some 27)) (tgt := 117) (am_Dk d_Rd_readName (k := 42) rfl) rfl rfl (by decide) (en_K ⟨by omega, by omega⟩ ⟨by decide, by decide⟩) (fun c19 => ?_) (fun c19 => ?_)
          · have K1_c19 : ¬ (tok f n ((tok f n a).2.2.1)).1 = 1 := fun z => c19 (by rw [z])
            have hPI : ¬ ((tok f n (tok f n a).2.2.1).2.1 = (tok f n a).2.2.1 ∧ (tok f n (tok f n a).2.2.1).1 = 1 ∧ (tok f n a).2.2.2.2 = 18) := fun z => K1_c19 z.2.1
            exact v_drop (h117 _ _ _ hv10 hPL hPI) (fun q hq => by simp only [List.mem_cons, List.not_mem_nil, or_false] at hq ⊢; rcases hq with h | h | h <;> simp [h])
          · have K1_c19 : (tok f n ((tok f n a).2.2.1)).1 = 1 := by have := Option.some.inj c19; omega
            refine v_aload_n (am_Dk d_Rd_readName (k := 43) rfl) rfl ?_
            refine v_gets (v := .ref 18) (am_Dk d_Rd_readName (k := 44) rfl) s_Rd_210 (by decide +kernel) ?_
            refine v_acmp_ne (rx := (some ((tok f n a).2.2.2.2))) (ry := (some 18)) (tgt := 117) (am_Dk d_Rd_readName (k := 45) rfl) rfl rfl (by decide) (en_N (by omega) (by decide)) (fun c20 => ?_) (fun c20 => ?_)
            · have Qc20 : ¬ ((tok f n a).2.2.2.2) = 18 := fun z => c20 (congrArg some z)
              have hPI : ¬ ((tok f n (tok f n a).2.2.1).2.1 = (tok f n a).2.2.1 ∧ (tok f n (tok f n a).2.2.1).1 = 1 ∧ (tok f n a).2.2.2.2 = 18) := fun z => Qc20 z.2.2
              exact v_drop (h117 _ _ _ hv10 hPL hPI) (fun q hq => by simp only [List.mem_cons, List.not_mem_nil, or_false] at hq ⊢; rcases hq with h | h | h <;> simp [h])
            · have Qc20 : ((tok f n a).2.2.2.2) = 18 := Option.some.inj c20
              have hPI : ((tok f n (tok f n a).2.2.1).2.1 = (tok f n a).2.2.1 ∧ (tok f n (tok f n a).2.2.1).1 = 1 ∧ (tok f n a).2.2.2.2 = 18) := ⟨hB9, K1_c19, Qc20⟩
              refine v_aload_n (am_Dk d_Rd_readName (k := 46) rfl) rfl ?_
              refine v_aload_n (am_Dk d_Rd_readName (k := 47) rfl) rfl ?_
              refine v_get (am_Dk d_Rd_readName (k := 48) rfl) f_Rd_24 m11 rfl ?_
              refine v_get (am_Dk d_Rd_readName (k := 49) rfl) f_Rd_147 m12 rfl ?_
              refine v_lneg (am_Dk d_Rd_readName (k := 50) rfl) ?_
              have m21 : (am_up M 1006 (.inr (6, [.ref 1001, .ref (26 + (tok f n ((tok f n a).2.2.1)).1), .int (nI (tok f n ((tok f n a).2.2.1)).2.1), .int (nI (tok f n ((tok f n a).2.2.1)).2.2.1), .long nu5, .ref ((tok f n ((tok f n a).2.2.1)).2.2.2.2), .int nf6, .int nt7]))) 1001 = some (.inr (1, [.ref 1002, .int (nI n)])) := (am_up_ne (show 1001 ≠ 1006 from by decide)).trans (h1)
              have m22 : (am_up M 1006 (.inr (6, [.ref 1001, .ref (26 + (tok f n ((tok f n a).2.2.1)).1), .int (nI (tok f n ((tok f n a).2.2.1)).2.1), .int (nI (tok f n ((tok f n a).2.2.1)).2.2.1), .long nu5, .ref ((tok f n ((tok f n a).2.2.1)).2.2.2.2), .int nf6, .int nt7]))) 1002 = some (.inl (0, 4096, .inl f)) := (am_up_ne (show 1002 ≠ 1006 from by decide)).trans (h2)
              refine v_callV (rest := []) (As := [.long (-nu5)]) (mc' := 0) (ms' := 0) (am_Dk d_Rd_readName (k := 51) rfl) c_Rd_151 (Or.inl ⟨_, _, _, _, _, m11, cq_ok5⟩) (t_Rd_readInteger G (d := 7) (by omega) m21 m22 hn (by omega) hnm (by omega) (show cs f n (am_up M 1006 (.inr (6, [.ref 1001, .ref (26 + (tok f n ((tok f n a).2.2.1)).1), .int (nI (tok f n ((tok f n a).2.2.1)).2.1), .int (nI (tok f n ((tok f n a).2.2.1)).2.2.1), .long nu5, .ref ((tok f n ((tok f n a).2.2.1)).2.2.2.2), .int nf6, .int nt7]))) ((ro, nm, mo, ar, (fe, fv, fa, fb)) :: K, true, false, sy, -1, ou, pr, ((tok f n a).2.2.1), (le, lv, l0, l1), (re, rv, r0, r1), (e, v, a0, b0)) from ⟨(am_up_ne (show 1005 ≠ 1006 from by decide)).trans (h5), ⟨_, _, _, am_up_eq _ _ _, hv10⟩, (am_up_ne (show 1007 ≠ 1006 from by decide)).trans (h7), fun z => absurd z (by decide), ⟨⟨_, (am_up_ne (show (2 * K.length + 1008) ≠ 1006 from by omega)).trans (ht)⟩, (am_up_ne (show (2 * K.length + 1009) ≠ 1006 from by omega)).trans (hf), cs_Kup hK (fun i z1 z2 => (am_up_ne (show i ≠ 1006 from by omega)).trans (rfl))⟩, cs_Xup hX (fun i (z1 : 2 * (K.length + 1) + 1008 ≤ i) z2 => (am_up_ne (show i ≠ 1006 from by omega)).trans (rfl)), (am_up_ne (show 1208 ≠ 1006 from by decide)).trans (hle), (am_up_ne (show 1209 ≠ 1006 from by decide)).trans (hri), (am_up_ne (show 1210 ≠ 1006 from by decide)).trans (hla)⟩)) (by omega) (by omega) (by omega) (by simp [Value.category]) rfl (fun v23 M24 n25 h26 => ?_) (fun _ _ _ h26 => ?_)
              rotate_left
              · exact absurd h26.1 (by simp)
              obtain ⟨h26, e29, hc27, hf28⟩ := h26
              replace e29 := e29.symm
              subst e29
              cases h26
              show am_V G _ _ _ _ _ 114 [(3, .int 1), (2, .int (nI (tok f n a).2.2.1)), (1, .ref ((tok f n a).2.2.2.2)), (0, .ref 1005)] [] M24 nx 0 0
              refine v_goto (tgt := 172) (am_Dk d_Rd_readName (k := 52) rfl) (by decide) ?_
              have hE : c_name f n ((ro, nm, mo, ar, (fe, fv, fa, fb)) :: K, true, false, sy, -1, ou, pr, a, (le, lv, l0, l1), (re, rv, r0, r1), (e, v, a0, b0)) = c_int f n (-nu5) ((ro, nm, mo, ar, (fe, fv, fa, fb)) :: K, true, false, sy, -1, ou, pr, ((tok f n a).2.2.1), (le, lv, l0, l1), (re, rv, r0, r1), (e, v, a0, b0)) := by
                rw [c_name, if_neg hPL, if_pos hPI, ← hv10 K1_c19]
              refine v_return (am_Dk d_Rd_readName (k := 78) rfl) rfl (by omega) (by omega) ⟨rfl, rfl, ?_, fun i hi => (hf28 i hi).trans ((am_up_ne (show i ≠ 1006 from by omega)).trans (rfl))⟩
              rw [hE]
              exact hc27
      · have K3_c17 : (tok f n ((tok f n a).2.2.1)).1 = 3 := by have := Option.some.inj c17; omega
        have hPL : ((tok f n (tok f n a).2.2.1).2.1 = (tok f n a).2.2.1 ∧ (tok f n (tok f n a).2.2.1).1 = 3) := ⟨hB9, K3_c17⟩
        refine v_aload_n (am_Dk d_Rd_readName (k := 27) rfl) rfl ?_
        refine v_get (am_Dk d_Rd_readName (k := 28) rfl) f_Rd_24 m11 rfl ?_
        have m30 : (am_up M 1006 (.inr (6, [.ref 1001, .ref (26 + (tok f n ((tok f n a).2.2.1)).1), .int (nI (tok f n ((tok f n a).2.2.1)).2.1), .int (nI (tok f n ((tok f n a).2.2.1)).2.2.1), .long nu5, .ref ((tok f n ((tok f n a).2.2.1)).2.2.2.2), .int nf6, .int nt7]))) 1001 = some (.inr (1, [.ref 1002, .int (nI n)])) := (am_up_ne (show 1001 ≠ 1006 from by decide)).trans (h1)
        have m31 : (am_up M 1006 (.inr (6, [.ref 1001, .ref (26 + (tok f n ((tok f n a).2.2.1)).1), .int (nI (tok f n ((tok f n a).2.2.1)).2.1), .int (nI (tok f n ((tok f n a).2.2.1)).2.2.1), .long nu5, .ref ((tok f n ((tok f n a).2.2.1)).2.2.2.2), .int nf6, .int nt7]))) 1002 = some (.inl (0, 4096, .inl f)) := (am_up_ne (show 1002 ≠ 1006 from by decide)).trans (h2)
        refine v_callV (rest := []) (As := []) (mc' := 0) (ms' := 0) (am_Dk d_Rd_readName (k := 29) rfl) c_Rd_155 (Or.inl ⟨_, _, _, _, _, m12, cq_ok6⟩) (t_Sg_next G (d := 6) (a := (tok f n ((tok f n a).2.2.1)).2.2.1) (by omega) m30 m31 (by omega) (by omega) m12) (by omega) (by omega) (by omega) (by simp [Value.category]) rfl (fun v32 M33 n34 h35 => ?_) (fun _ _ _ h35 => ?_)
        rotate_left
        · exact absurd h35.1 (by simp)
        obtain ⟨h35, e40, nu36, nf37, nt38, e39, hv41⟩ := h35
        replace e39 := e39.symm
        replace e40 := e40.symm
        subst e39
        subst e40
        cases h35
        rw [am_uu0 (a := 1006)]
        show am_V G _ _ _ _ _ 64 [(3, .int 1), (2, .int (nI (tok f n a).2.2.1)), (1, .ref ((tok f n a).2.2.2.2)), (0, .ref 1005)] [] (am_up M 1006 (.inr (6, [.ref 1001, .ref (26 + (tok f n ((tok f n ((tok f n a).2.2.1)).2.2.1)).1), .int (nI (tok f n ((tok f n ((tok f n a).2.2.1)).2.2.1)).2.1), .int (nI (tok f n ((tok f n ((tok f n a).2.2.1)).2.2.1)).2.2.1), .long nu36, .ref ((tok f n ((tok f n ((tok f n a).2.2.1)).2.2.1)).2.2.2.2), .int nf37, .int nt38]))) nx 0 0
        have tk_h35 := tok_ok f (show (tok f n ((tok f n a).2.2.1)).2.2.1 ≤ n from by omega)
        refine v_aload_n (am_Dk d_Rd_readName (k := 30) rfl) rfl ?_
        refine v_gets (v := .ref 42) (am_Dk d_Rd_readName (k := 31) rfl) s_Rd_204 (by decide +kernel) ?_
        refine v_aload_n (am_Dk d_Rd_readName (k := 32) rfl) rfl ?_
        refine v_sipush (v := 999) (am_Dk d_Rd_readName (k := 33) rfl) (by decide) ?_
        have m42 : (am_up M 1006 (.inr (6, [.ref 1001, .ref (26 + (tok f n ((tok f n ((tok f n a).2.2.1)).2.2.1)).1), .int (nI (tok f n ((tok f n ((tok f n a).2.2.1)).2.2.1)).2.1), .int (nI (tok f n ((tok f n ((tok f n a).2.2.1)).2.2.1)).2.2.1), .long nu36, .ref ((tok f n ((tok f n ((tok f n a).2.2.1)).2.2.1)).2.2.2.2), .int nf37, .int nt38]))) 1005 = some (.inr (5, [.ref 1001, .ref 1003, .ref 1006, .ref 1007, .int (nI (K.length + 1)), .int 1, .int 0, .int (nI sy), .int (-1), .ref ou, .ref 1208, .ref 1209, .ref 1210])) := (am_up_ne (show 1005 ≠ 1006 from by decide)).trans (h5)
        have m43 : (am_up M 1006 (.inr (6, [.ref 1001, .ref (26 + (tok f n ((tok f n ((tok f n a).2.2.1)).2.2.1)).1), .int (nI (tok f n ((tok f n ((tok f n a).2.2.1)).2.2.1)).2.1), .int (nI (tok f n ((tok f n ((tok f n a).2.2.1)).2.2.1)).2.2.1), .long nu36, .ref ((tok f n ((tok f n ((tok f n a).2.2.1)).2.2.1)).2.2.2.2), .int nf37, .int nt38]))) 1006 = some (.inr (6, [.ref 1001, .ref (26 + (tok f n ((tok f n ((tok f n a).2.2.1)).2.2.1)).1), .int (nI (tok f n ((tok f n ((tok f n a).2.2.1)).2.2.1)).2.1), .int (nI (tok f n ((tok f n ((tok f n a).2.2.1)).2.2.1)).2.2.1), .long nu36, .ref ((tok f n ((tok f n ((tok f n a).2.2.1)).2.2.1)).2.2.2.2), .int nf37, .int nt38])) := am_up_eq _ _ _
        have m44 : (am_up M 1006 (.inr (6, [.ref 1001, .ref (26 + (tok f n ((tok f n ((tok f n a).2.2.1)).2.2.1)).1), .int (nI (tok f n ((tok f n ((tok f n a).2.2.1)).2.2.1)).2.1), .int (nI (tok f n ((tok f n ((tok f n a).2.2.1)).2.2.1)).2.2.1), .long nu36, .ref ((tok f n ((tok f n ((tok f n a).2.2.1)).2.2.1)).2.2.2.2), .int nf37, .int nt38]))) 1007 = some (.inl (4, 100, .inr (.inr (.inr (.inr (ci_arr 100)))))) := (am_up_ne (show 1007 ≠ 1006 from by decide)).trans (h7)
        have m45 : (am_up M 1006 (.inr (6, [.ref 1001, .ref (26 + (tok f n ((tok f n ((tok f n a).2.2.1)).2.2.1)).1), .int (nI (tok f n ((tok f n ((tok f n a).2.2.1)).2.2.1)).2.1), .int (nI (tok f n ((tok f n ((tok f n a).2.2.1)).2.2.1)).2.2.1), .long nu36, .ref ((tok f n ((tok f n ((tok f n a).2.2.1)).2.2.1)).2.2.2.2), .int nf37, .int nt38]))) 1210 = some (.inr (8, [.int e, .long v, .int a0, .int b0])) := (am_up_ne (show 1210 ≠ 1006 from by decide)).trans (hla)
        refine v_callV (rest := []) (As := [.ref 42, .ref ((tok f n a).2.2.2.2), .int 999]) (mc' := 0) (ms' := 0) (am_Dk d_Rd_readName (k := 34) rfl) c_Rd_81 (Or.inl ⟨_, _, _, _, _, m42, cq_ok5⟩) (t_Rd_begin G (d := 1) (j := K.length + 1) (dp := 0) (by omega) (by omega) m42 m43 m44 m45 (fun z => cs_Xup hX (fun i (z1 : 2 * (K.length + 1) + 1008 ≤ i) z2 => (am_up_ne (show i ≠ 1006 from by omega)).trans (rfl)) _ (Nat.le_refl _) z)) (by omega) (by omega) (by omega) (by simp [Value.category]) rfl (fun v46 M47 n48 h49 => ?_) (fun v46 M47 n48 h49 => ?_)
        · rcases h49 with ⟨hj9, h49, e1, e2⟩ | ⟨hj9, h49, ⟨ro9, tn9, mo9, pr9, ar9, e9, v9, a9, b9, hx1, hx2, e1⟩, e2⟩
          · cases h49
            replace e1 := e1.symm
            replace e2 := e2.symm
            subst e1
            subst e2
            show am_V G _ _ _ _ _ 75 [(3, .int 1), (2, .int (nI (tok f n a).2.2.1)), (1, .ref ((tok f n a).2.2.2.2)), (0, .ref 1005)] [] (am_up (am_up M 1006 (.inr (6, [.ref 1001, .ref (26 + (tok f n ((tok f n ((tok f n a).2.2.1)).2.2.1)).1), .int (nI (tok f n ((tok f n ((tok f n a).2.2.1)).2.2.1)).2.1), .int (nI (tok f n ((tok f n ((tok f n a).2.2.1)).2.2.1)).2.2.1), .long nu36, .ref ((tok f n ((tok f n ((tok f n a).2.2.1)).2.2.1)).2.2.2.2), .int nf37, .int nt38]))) 1005 (.inr (5, [.ref 1001, .ref 1003, .ref 1006, .ref 1007, .int (nI (K.length + 1)), .int 1, .int 0, .int (nI sy), .int (nI (tok f n ((tok f n ((tok f n a).2.2.1)).2.2.1)).2.1), .ref ou, .ref 1208, .ref 1209, .ref 1210]))) nx 0 0
            refine v_goto (tgt := 172) (am_Dk d_Rd_readName (k := 35) rfl) (by decide) ?_
            have hE : c_name f n ((ro, nm, mo, ar, (fe, fv, fa, fb)) :: K, true, false, sy, -1, ou, pr, a, (le, lv, l0, l1), (re, rv, r0, r1), (e, v, a0, b0)) = ((ro, nm, mo, ar, (fe, fv, fa, fb)) :: K, true, false, sy, nI (tok f n ((tok f n ((tok f n a).2.2.1)).2.2.1)).2.1, ou, pr, ((tok f n ((tok f n a).2.2.1)).2.2.1), (le, lv, l0, l1), (re, rv, r0, r1), (e, v, a0, b0)) := by
              rw [c_name, if_pos hPL, c_beg, if_neg (show ¬ (_ :: _).length < 100 from by show ¬ K.length + 1 < 100; omega)]
              try rfl
            refine v_return (am_Dk d_Rd_readName (k := 78) rfl) rfl (by omega) (by omega) ⟨rfl, rfl, ?_, fun i hi => (am_up_ne (show i ≠ 1005 from by omega)).trans ((am_up_ne (show i ≠ 1006 from by omega)).trans (rfl))⟩
            rw [hE]
            exact ⟨am_up_eq _ _ _, ⟨_, _, _, (am_up_ne (show 1006 ≠ 1005 from by decide)).trans (am_up_eq _ _ _), hv41⟩, (am_up_ne (show 1007 ≠ 1005 from by decide)).trans ((am_up_ne (show 1007 ≠ 1006 from by decide)).trans (h7)), fun z => absurd z (by decide), ⟨⟨_, (am_up_ne (show (2 * K.length + 1008) ≠ 1005 from by omega)).trans ((am_up_ne (show (2 * K.length + 1008) ≠ 1006 from by omega)).trans (ht))⟩, (am_up_ne (show (2 * K.length + 1009) ≠ 1005 from by omega)).trans ((am_up_ne (show (2 * K.length + 1009) ≠ 1006 from by omega)).trans (hf)), cs_Kup hK (fun i z1 z2 => (am_up_ne (show i ≠ 1005 from by omega)).trans ((am_up_ne (show i ≠ 1006 from by omega)).trans (rfl)))⟩, cs_Xup hX (fun i (z1 : 2 * (K.length + 1) + 1008 ≤ i) z2 => (am_up_ne (show i ≠ 1005 from by omega)).trans ((am_up_ne (show i ≠ 1006 from by omega)).trans (rfl))), (am_up_ne (show 1208 ≠ 1005 from by decide)).trans ((am_up_ne (show 1208 ≠ 1006 from by decide)).trans (hle)), (am_up_ne (show 1209 ≠ 1005 from by decide)).trans ((am_up_ne (show 1209 ≠ 1006 from by decide)).trans (hri)), (am_up_ne (show 1210 ≠ 1005 from by decide)).trans ((am_up_ne (show 1210 ≠ 1006 from by decide)).trans (hla))⟩
          · cases h49
            replace e1 := e1.symm
            replace e2 := e2.symm
            subst e1
            subst e2
            show am_V G _ _ _ _ _ 75 [(3, .int 1), (2, .int (nI (tok f n a).2.2.1)), (1, .ref ((tok f n a).2.2.2.2)), (0, .ref 1005)] [] (am_up (am_up (am_up (am_up M 1006 (.inr (6, [.ref 1001, .ref (26 + (tok f n ((tok f n ((tok f n a).2.2.1)).2.2.1)).1), .int (nI (tok f n ((tok f n ((tok f n a).2.2.1)).2.2.1)).2.1), .int (nI (tok f n ((tok f n ((tok f n a).2.2.1)).2.2.1)).2.2.1), .long nu36, .ref ((tok f n ((tok f n ((tok f n a).2.2.1)).2.2.1)).2.2.2.2), .int nf37, .int nt38]))) (2 * (K.length + 1) + 1008) (.inr (7, [.ref 42, .ref ((tok f n a).2.2.2.2), .int 999, .int pr9, .int 0, .ref (2 * (K.length + 1) + 1009)]))) (2 * (K.length + 1) + 1009) (.inr (8, [.int e, .long v, .int a0, .int b0]))) 1005 (.inr (5, [.ref 1001, .ref 1003, .ref 1006, .ref 1007, .int (nI (K.length + 2)), .int 1, .int 0, .int (nI sy), .int (-1), .ref ou, .ref 1208, .ref 1209, .ref 1210]))) nx 0 0
            refine v_goto (tgt := 172) (am_Dk d_Rd_readName (k := 35) rfl) (by decide) ?_
            have hE : c_name f n ((ro, nm, mo, ar, (fe, fv, fa, fb)) :: K, true, false, sy, -1, ou, pr, a, (le, lv, l0, l1), (re, rv, r0, r1), (e, v, a0, b0)) = ((4, (tok f n a).2.2.2.2, 999, 0, (e, v, a0, b0)) :: (ro, nm, mo, ar, (fe, fv, fa, fb)) :: K, true, false, sy, -1, ou, 0, ((tok f n ((tok f n a).2.2.1)).2.2.1), (le, lv, l0, l1), (re, rv, r0, r1), (e, v, a0, b0)) := by
              rw [c_name, if_pos hPL, c_beg, if_pos (show (_ :: _).length < 100 from by show K.length + 1 < 100; omega)]
              try rfl
            refine v_return (am_Dk d_Rd_readName (k := 78) rfl) rfl (by omega) (by omega) ⟨rfl, rfl, ?_, fun i hi => (am_up_ne (show i ≠ 1005 from by omega)).trans ((am_up_ne (show i ≠ (2 * (K.length + 1) + 1009) from by omega)).trans ((am_up_ne (show i ≠ (2 * (K.length + 1) + 1008) from by omega)).trans ((am_up_ne (show i ≠ 1006 from by omega)).trans (rfl))))⟩
            rw [hE]
            exact ⟨am_up_eq _ _ _, ⟨_, _, _, (am_up_ne (show 1006 ≠ 1005 from by decide)).trans ((am_up_ne (show 1006 ≠ (2 * (K.length + 1) + 1009) from by omega)).trans ((am_up_ne (show 1006 ≠ (2 * (K.length + 1) + 1008) from by omega)).trans (am_up_eq _ _ _))), hv41⟩, (am_up_ne (show 1007 ≠ 1005 from by decide)).trans ((am_up_ne (show 1007 ≠ (2 * (K.length + 1) + 1009) from by omega)).trans ((am_up_ne (show 1007 ≠ (2 * (K.length + 1) + 1008) from by omega)).trans ((am_up_ne (show 1007 ≠ 1006 from by decide)).trans (h7)))), fun z => absurd z (by decide), ⟨⟨_, (am_up_ne (show (2 * (K.length + 1) + 1008) ≠ 1005 from by omega)).trans ((am_up_ne (show (2 * (K.length + 1) + 1008) ≠ (2 * (K.length + 1) + 1009) from by omega)).trans (am_up_eq _ _ _))⟩, (am_up_ne (show (2 * (K.length + 1) + 1009) ≠ 1005 from by omega)).trans (am_up_eq _ _ _), ⟨_, (am_up_ne (show (2 * K.length + 1008) ≠ 1005 from by omega)).trans ((am_up_ne (show (2 * K.length + 1008) ≠ (2 * (K.length + 1) + 1009) from by omega)).trans ((am_up_ne (show (2 * K.length + 1008) ≠ (2 * (K.length + 1) + 1008) from by omega)).trans ((am_up_ne (show (2 * K.length + 1008) ≠ 1006 from by omega)).trans (ht))))⟩, (am_up_ne (show (2 * K.length + 1009) ≠ 1005 from by omega)).trans ((am_up_ne (show (2 * K.length + 1009) ≠ (2 * (K.length + 1) + 1009) from by omega)).trans ((am_up_ne (show (2 * K.length + 1009) ≠ (2 * (K.length + 1) + 1008) from by omega)).trans ((am_up_ne (show (2 * K.length + 1009) ≠ 1006 from by omega)).trans (hf)))), cs_Kup hK (fun i z1 z2 => (am_up_ne (show i ≠ 1005 from by omega)).trans ((am_up_ne (show i ≠ (2 * (K.length + 1) + 1009) from by omega)).trans ((am_up_ne (show i ≠ (2 * (K.length + 1) + 1008) from by omega)).trans ((am_up_ne (show i ≠ 1006 from by omega)).trans (rfl)))))⟩, cs_Xup (cs_Xmo hX (Nat.le_succ _)) (fun i (z1 : 2 * (K.length + 2) + 1008 ≤ i) z2 => (am_up_ne (show i ≠ 1005 from by omega)).trans ((am_up_ne (show i ≠ (2 * (K.length + 1) + 1009) from by omega)).trans ((am_up_ne (show i ≠ (2 * (K.length + 1) + 1008) from by omega)).trans ((am_up_ne (show i ≠ 1006 from by omega)).trans (rfl))))), (am_up_ne (show 1208 ≠ 1005 from by decide)).trans ((am_up_ne (show 1208 ≠ (2 * (K.length + 1) + 1009) from by omega)).trans ((am_up_ne (show 1208 ≠ (2 * (K.length + 1) + 1008) from by omega)).trans ((am_up_ne (show 1208 ≠ 1006 from by decide)).trans (hle)))), (am_up_ne (show 1209 ≠ 1005 from by decide)).trans ((am_up_ne (show 1209 ≠ (2 * (K.length + 1) + 1009) from by omega)).trans ((am_up_ne (show 1209 ≠ (2 * (K.length + 1) + 1008) from by omega)).trans ((am_up_ne (show 1209 ≠ 1006 from by decide)).trans (hri)))), (am_up_ne (show 1210 ≠ 1005 from by decide)).trans ((am_up_ne (show 1210 ≠ (2 * (K.length + 1) + 1009) from by omega)).trans ((am_up_ne (show 1210 ≠ (2 * (K.length + 1) + 1008) from by omega)).trans ((am_up_ne (show 1210 ≠ 1006 from by decide)).trans (hla))))⟩
        · rcases h49 with ⟨hj9, h49, e1, e2⟩ | ⟨hj9, h49, ⟨ro9, tn9, mo9, pr9, ar9, e9, v9, a9, b9, hx1, hx2, e1⟩, e2⟩
          · cases h49
          · cases h49
set_option maxRecDepth 20000 in
theorem t_Rd_goOnI (G : am_G) {d nx : Nat} (hd : 7 ≤ d) {M : am_M} {f : Nat → Int32} {n : Nat} (h1 : M 1001 = some (.inr (1, [.ref 1002, .int (nI n)]))) (h2 : M 1002 = some (.inl (0, 4096, .inl f))) (hn : n ≤ 4096) {K : List Frm} {ro nm ar sy ou a : Nat} {mo pr fa fb fe l0 l1 le r0 r1 re a0 b0 e : Int32} {fv lv rv v : Int64} (hl : K.length < 100) (hnm : nm < 26) (ha : a ≤ n) (hi : (0 < kn_inf (tok f n a).2.2.2.2 ∧ kn_inf (tok f n a).2.2.2.2 ≤ mo ∧ pr ≤ kn_ml (tok f n a).2.2.2.2)) (hcs : cs f n M ((ro, nm, mo, ar, (fe, fv, fa, fb)) :: K, false, false, sy, -1, ou, pr, a, (le, lv, l0, l1), (re, rv, r0, r1), (e, v, a0, b0))) : am_Tr G m_Rd_goOn d 0 0 [.ref 1005] M nx (fun r M1 nx1 => r = .inl none ∧ nx1 = nx ∧ cs f n M1 (c_go f n ((ro, nm, mo, ar, (fe, fv, fa, fb)) :: K, false, false, sy, -1, ou, pr, a, (le, lv, l0, l1), (re, rv, r0, r1), (e, v, a0, b0))) ∧ cs_fr M M1) := by
  refine am_TrOf (by decide) (Nat.le_of_ble_eq_true rfl) ?_
  show am_V G _ _ _ _ _ 0 [(0, .ref 1005)] [] M nx 0 0
  obtain ⟨h5, ⟨nu, nf, nt, h6, hnu⟩, h7, qT, ⟨⟨pr0, ht⟩, hf, hK⟩, hX, hle, hri, hla⟩ := hcs
  replace h5 : M 1005 = some (.inr (5, [.ref 1001, .ref 1003, .ref 1006, .ref 1007, .int (nI (K.length + 1)), .int 0, .int 0, .int (nI sy), .int (-1), .ref ou, .ref 1208, .ref 1209, .ref 1210])) := h5
  clear ht
  have ht := qT rfl
  replace ht : M (2 * K.length + 1008) = some (.inr (7, [.ref (38 + ro), .ref nm, .int mo, .int pr, .int (nI ar), .ref (2 * K.length + 1009)])) := ht
  replace hf : M (2 * K.length + 1009) = some (.inr (8, [.int fe, .long fv, .int fa, .int fb])) := hf
  replace hle : M 1208 = some (.inr (8, [.int le, .long lv, .int l0, .int l1])) := hle
  replace hri : M 1209 = some (.inr (8, [.int re, .long rv, .int r0, .int r1])) := hri
  replace hla : M 1210 = some (.inr (8, [.int e, .long v, .int a0, .int b0])) := hla
  have tk0 := tok_ok f ha
  refine v_aload_n (am_Dk d_Rd_goOn (k := 0) rfl) rfl ?_
  refine v_callV (rest := []) (As := []) (mc' := 0) (ms' := 0) (am_Dk d_Rd_goOn (k := 1) rfl) c_Rd_127 (Or.inl ⟨_, _, _, _, _, h5, cq_ok5⟩) (t_Rd_innermost G (d := 0) (j := K.length) (dp := 0) (by omega) (by omega) h5 h7) (by omega) (by omega) (by omega) (by simp [Value.category]) rfl (fun v1 M2 n3 h4 => ?_) (fun _ _ _ h4 => ?_)
  rotate_left
  · exact absurd h4.1 (by simp)
  obtain ⟨h4, e5, e6⟩ := h4
  replace e5 := e5.symm
  replace e6 := e6.symm
  subst e5
  subst e6
  cases h4
  show am_V G _ _ _ _ _ 4 [(0, .ref 1005)] [.ref (2 * K.length + 1008)] M nx 0 0
  refine v_astore_n (L1 := [(1, .ref (2 * K.length + 1008)), (0, .ref 1005)]) (am_Dk d_Rd_goOn (k := 2) rfl) (by decide) rfl ?_
  refine v_aload_n (am_Dk d_Rd_goOn (k := 3) rfl) rfl ?_
  refine v_get (am_Dk d_Rd_goOn (k := 4) rfl) f_Rd_24 h5 rfl ?_
  refine v_get (am_Dk d_Rd_goOn (k := 5) rfl) f_Rd_200 h6 rfl ?_
  refine v_astore_n (L1 := [(2, .ref ((tok f n a).2.2.2.2)), (1, .ref (2 * K.length + 1008)), (0, .ref 1005)]) (am_Dk d_Rd_goOn (k := 6) rfl) (by decide) rfl ?_
  refine v_aload_n (am_Dk d_Rd_goOn (k := 7) rfl) rfl ?_
  refine v_getK (i := (tok f n a).2.2.2.2) (v := .int (kn_inf ((tok f n a).2.2.2.2))) (am_Dk d_Rd_goOn (k := 8) rfl) g_Rd_223 (Or.inl rfl) (kn_inf_k _ (by omega)) ?_
  refine v_if_le (tgt := 62) (am_Dk d_Rd_goOn (k := 9) rfl) (by decide) (fun c7 => ?_) (fun c7 => ?_)
  · exact absurd c7 (Int32.not_le.mpr hi.1)
  · refine v_aload_n (am_Dk d_Rd_goOn (k := 10) rfl) rfl ?_
    refine v_getK (i := (tok f n a).2.2.2.2) (v := .int (kn_inf ((tok f n a).2.2.2.2))) (am_Dk d_Rd_goOn (k := 11) rfl) g_Rd_223 (Or.inl rfl) (kn_inf_k _ (by omega)) ?_
    refine v_aload_n (am_Dk d_Rd_goOn (k := 12) rfl) rfl ?_
    refine v_get (am_Dk d_Rd_goOn (k := 13) rfl) f_Rd_115 ht rfl ?_
    refine v_icmp_gt (tgt := 62) (am_Dk d_Rd_goOn (k := 14) rfl) (by decide) (fun c8 => ?_) (fun c8 => ?_)
    · exact absurd c8 (Int32.not_lt.mpr hi.2.1)
    · refine v_aload_n (am_Dk d_Rd_goOn (k := 15) rfl) rfl ?_
      refine v_get (am_Dk d_Rd_goOn (k := 16) rfl) f_Rd_131 ht rfl ?_
      refine v_aload_n (am_Dk d_Rd_goOn (k := 17) rfl) rfl ?_
      refine v_getK (i := (tok f n a).2.2.2.2) (v := .int (kn_ml ((tok f n a).2.2.2.2))) (am_Dk d_Rd_goOn (k := 18) rfl) g_Rd_226 (Or.inl rfl) (kn_ml_k _ (by omega)) ?_
      refine v_icmp_gt (tgt := 62) (am_Dk d_Rd_goOn (k := 19) rfl) (by decide) (fun c9 => ?_) (fun c9 => ?_)
      · exact absurd c9 (Int32.not_lt.mpr hi.2.2)
      · refine v_aload_n (am_Dk d_Rd_goOn (k := 20) rfl) rfl ?_
        refine v_get (am_Dk d_Rd_goOn (k := 21) rfl) f_Rd_24 h5 rfl ?_
        refine v_callV (rest := []) (As := []) (mc' := 0) (ms' := 0) (am_Dk d_Rd_goOn (k := 22) rfl) c_Rd_155 (Or.inl ⟨_, _, _, _, _, h6, cq_ok6⟩) (t_Sg_next G (d := 6) (a := (tok f n a).2.2.1) (by omega) h1 h2 (by omega) (by omega) h6) (by omega) (by omega) (by omega) (by simp [Value.category]) rfl (fun v10 M11 n12 h13 => ?_) (fun _ _ _ h13 => ?_)
        rotate_left
        · exact absurd h13.1 (by simp)
        obtain ⟨h13, e18, nu14, nf15, nt16, e17, hv19⟩ := h13
        replace e17 := e17.symm
        replace e18 := e18.symm
        subst e17
        subst e18
        cases h13
        show am_V G _ _ _ _ _ 49 [(2, .ref ((tok f n a).2.2.2.2)), (1, .ref (2 * K.length + 1008)), (0, .ref 1005)] [] (am_up M 1006 (.inr (6, [.ref 1001, .ref (26 + (tok f n ((tok f n a).2.2.1)).1), .int (nI (tok f n ((tok f n a).2.2.1)).2.1), .int (nI (tok f n ((tok f n a).2.2.1)).2.2.1), .long nu14, .ref ((tok f n ((tok f n a).2.2.1)).2.2.2.2), .int nf15, .int nt16]))) nx 0 0
        have tk_h13 := tok_ok f (show (tok f n a).2.2.1 ≤ n from by omega)
        refine v_aload_n (am_Dk d_Rd_goOn (k := 23) rfl) rfl ?_
        refine v_gets (v := .ref 41) (am_Dk d_Rd_goOn (k := 24) rfl) s_Rd_229 (by decide +kernel) ?_
        refine v_aload_n (am_Dk d_Rd_goOn (k := 25) rfl) rfl ?_
        refine v_aload_n (am_Dk d_Rd_goOn (k := 26) rfl) rfl ?_
        refine v_getK (i := (tok f n a).2.2.2.2) (v := .int (kn_mr ((tok f n a).2.2.2.2))) (am_Dk d_Rd_goOn (k := 27) rfl) g_Rd_232 (Or.inl rfl) (kn_mr_k _ (by omega)) ?_
        have m20 : (am_up M 1006 (.inr (6, [.ref 1001, .ref (26 + (tok f n ((tok f n a).2.2.1)).1), .int (nI (tok f n ((tok f n a).2.2.1)).2.1), .int (nI (tok f n ((tok f n a).2.2.1)).2.2.1), .long nu14, .ref ((tok f n ((tok f n a).2.2.1)).2.2.2.2), .int nf15, .int nt16]))) 1005 = some (.inr (5, [.ref 1001, .ref 1003, .ref 1006, .ref 1007, .int (nI (K.length + 1)), .int 0, .int 0, .int (nI sy), .int (-1), .ref ou, .ref 1208, .ref 1209, .ref 1210])) := (am_up_ne (show 1005 ≠ 1006 from by decide)).trans (h5)
        have m21 : (am_up M 1006 (.inr (6, [.ref 1001, .ref (26 + (tok f n ((tok f n a).2.2.1)).1), .int (nI (tok f n ((tok f n a).2.2.1)).2.1), .int (nI (tok f n ((tok f n a).2.2.1)).2.2.1), .long nu14, .ref ((tok f n ((tok f n a).2.2.1)).2.2.2.2), .int nf15, .int nt16]))) 1006 = some (.inr (6, [.ref 1001, .ref (26 + (tok f n ((tok f n a).2.2.1)).1), .int (nI (tok f n ((tok f n a).2.2.1)).2.1), .int (nI (tok f n ((tok f n a).2.2.1)).2.2.1), .long nu14, .ref ((tok f n ((tok f n a).2.2.1)).2.2.2.2), .int nf15, .int nt16])) := am_up_eq _ _ _
        have m22 : (am_up M 1006 (.inr (6, [.ref 1001, .ref (26 + (tok f n ((tok f n a).2.2.1)).1), .int (nI (tok f n ((tok f n a).2.2.1)).2.1), .int (nI (tok f n ((tok f n a).2.2.1)).2.2.1), .long nu14, .ref ((tok f n ((tok f n a).2.2.1)).2.2.2.2), .int nf15, .int nt16]))) 1007 = some (.inl (4, 100, .inr (.inr (.inr (.inr (ci_arr 100)))))) := (am_up_ne (show 1007 ≠ 1006 from by decide)).trans (h7)
        have m23 : (am_up M 1006 (.inr (6, [.ref 1001, .ref (26 + (tok f n ((tok f n a).2.2.1)).1), .int (nI (tok f n ((tok f n a).2.2.1)).2.1), .int (nI (tok f n ((tok f n a).2.2.1)).2.2.1), .long nu14, .ref ((tok f n ((tok f n a).2.2.1)).2.2.2.2), .int nf15, .int nt16]))) 1210 = some (.inr (8, [.int e, .long v, .int a0, .int b0])) := (am_up_ne (show 1210 ≠ 1006 from by decide)).trans (hla)
        refine v_callV (rest := []) (As := [.ref 41, .ref ((tok f n a).2.2.2.2), .int (kn_mr ((tok f n a).2.2.2.2))]) (mc' := 0) (ms' := 0) (am_Dk d_Rd_goOn (k := 28) rfl) c_Rd_81 (Or.inl ⟨_, _, _, _, _, m20, cq_ok5⟩) (t_Rd_begin G (d := 1) (j := K.length + 1) (dp := 0) (by omega) (by omega) m20 m21 m22 m23 (fun z => cs_Xup hX (fun i (z1 : 2 * (K.length + 1) + 1008 ≤ i) z2 => (am_up_ne (show i ≠ 1006 from by omega)).trans (rfl)) _ (Nat.le_refl _) z)) (by omega) (by omega) (by omega) (by simp [Value.category]) rfl (fun v24 M25 n26 h27 => ?_) (fun v24 M25 n26 h27 => ?_)
        · rcases h27 with ⟨hj9, h27, e1, e2⟩ | ⟨hj9, h27, ⟨ro9, tn9, mo9, pr9, ar9, e9, v9, a9, b9, hx1, hx2, e1⟩, e2⟩
          · cases h27
            replace e1 := e1.symm
            replace e2 := e2.symm
            subst e1
            subst e2
            show am_V G _ _ _ _ _ 61 [(2, .ref ((tok f n a).2.2.2.2)), (1, .ref (2 * K.length + 1008)), (0, .ref 1005)] [] (am_up (am_up M 1006 (.inr (6, [.ref 1001, .ref (26 + (tok f n ((tok f n a).2.2.1)).1), .int (nI (tok f n ((tok f n a).2.2.1)).2.1), .int (nI (tok f n ((tok f n a).2.2.1)).2.2.1), .long nu14, .ref ((tok f n ((tok f n a).2.2.1)).2.2.2.2), .int nf15, .int nt16]))) 1005 (.inr (5, [.ref 1001, .ref 1003, .ref 1006, .ref 1007, .int (nI (K.length + 1)), .int 0, .int 0, .int (nI sy), .int (nI (tok f n ((tok f n a).2.2.1)).2.1), .ref ou, .ref 1208, .ref 1209, .ref 1210]))) nx 0 0
            have hE : c_go f n ((ro, nm, mo, ar, (fe, fv, fa, fb)) :: K, false, false, sy, -1, ou, pr, a, (le, lv, l0, l1), (re, rv, r0, r1), (e, v, a0, b0)) = ((ro, nm, mo, ar, (fe, fv, fa, fb)) :: K, false, false, sy, nI (tok f n ((tok f n a).2.2.1)).2.1, ou, pr, ((tok f n a).2.2.1), (le, lv, l0, l1), (re, rv, r0, r1), (e, v, a0, b0)) := by
              rw [c_go, if_pos hi, c_beg, if_neg (show ¬ (_ :: _).length < 100 from by show ¬ K.length + 1 < 100; omega)]
              try rfl
            refine v_return (am_Dk d_Rd_goOn (k := 29) rfl) rfl (by omega) (by omega) ⟨rfl, rfl, ?_, fun i hi => (am_up_ne (show i ≠ 1005 from by omega)).trans ((am_up_ne (show i ≠ 1006 from by omega)).trans (rfl))⟩
            rw [hE]
            exact ⟨am_up_eq _ _ _, ⟨_, _, _, (am_up_ne (show 1006 ≠ 1005 from by decide)).trans (am_up_eq _ _ _), hv19⟩, (am_up_ne (show 1007 ≠ 1005 from by decide)).trans ((am_up_ne (show 1007 ≠ 1006 from by decide)).trans (h7)), fun _ => (am_up_ne (show (2 * K.length + 1008) ≠ 1005 from by omega)).trans ((am_up_ne (show (2 * K.length + 1008) ≠ 1006 from by omega)).trans (ht)), ⟨⟨_, (am_up_ne (show (2 * K.length + 1008) ≠ 1005 from by omega)).trans ((am_up_ne (show (2 * K.length + 1008) ≠ 1006 from by omega)).trans (ht))⟩, (am_up_ne (show (2 * K.length + 1009) ≠ 1005 from by omega)).trans ((am_up_ne (show (2 * K.length + 1009) ≠ 1006 from by omega)).trans (hf)), cs_Kup hK (fun i z1 z2 => (am_up_ne (show i ≠ 1005 from by omega)).trans ((am_up_ne (show i ≠ 1006 from by omega)).trans (rfl)))⟩, cs_Xup hX (fun i (z1 : 2 * (K.length + 1) + 1008 ≤ i) z2 => (am_up_ne (show i ≠ 1005 from by omega)).trans ((am_up_ne (show i ≠ 1006 from by omega)).trans (rfl))), (am_up_ne (show 1208 ≠ 1005 from by decide)).trans ((am_up_ne (show 1208 ≠ 1006 from by decide)).trans (hle)), (am_up_ne (show 1209 ≠ 1005 from by decide)).trans ((am_up_ne (show 1209 ≠ 1006 from by decide)).trans (hri)), (am_up_ne (show 1210 ≠ 1005 from by decide)).trans ((am_up_ne (show 1210 ≠ 1006 from by decide)).trans (hla))⟩
          · cases h27
            replace e1 := e1.symm
            replace e2 := e2.symm
            subst e1
            subst e2
            show am_V G _ _ _ _ _ 61 [(2, .ref ((tok f n a).2.2.2.2)), (1, .ref (2 * K.length + 1008)), (0, .ref 1005)] [] (am_up (am_up (am_up (am_up M 1006 (.inr (6, [.ref 1001, .ref (26 + (tok f n ((tok f n a).2.2.1)).1), .int (nI (tok f n ((tok f n a).2.2.1)).2.1), .int (nI (tok f n ((tok f n a).2.2.1)).2.2.1), .long nu14, .ref ((tok f n ((tok f n a).2.2.1)).2.2.2.2), .int nf15, .int nt16]))) (2 * (K.length + 1) + 1008) (.inr (7, [.ref 41, .ref ((tok f n a).2.2.2.2), .int (kn_mr ((tok f n a).2.2.2.2)), .int pr9, .int 0, .ref (2 * (K.length + 1) + 1009)]))) (2 * (K.length + 1) + 1009) (.inr (8, [.int e, .long v, .int a0, .int b0]))) 1005 (.inr (5, [.ref 1001, .ref 1003, .ref 1006, .ref 1007, .int (nI (K.length + 2)), .int 1, .int 0, .int (nI sy), .int (-1), .ref ou, .ref 1208, .ref 1209, .ref 1210]))) nx 0 0
            have hE : c_go f n ((ro, nm, mo, ar, (fe, fv, fa, fb)) :: K, false, false, sy, -1, ou, pr, a, (le, lv, l0, l1), (re, rv, r0, r1), (e, v, a0, b0)) = ((3, (tok f n a).2.2.2.2, kn_mr ((tok f n a).2.2.2.2), 0, (e, v, a0, b0)) :: (ro, nm, mo, ar, (fe, fv, fa, fb)) :: K, true, false, sy, -1, ou, 0, ((tok f n a).2.2.1), (le, lv, l0, l1), (re, rv, r0, r1), (e, v, a0, b0)) := by
              rw [c_go, if_pos hi, c_beg, if_pos (show (_ :: _).length < 100 from by show K.length + 1 < 100; omega)]
              try rfl
            refine v_return (am_Dk d_Rd_goOn (k := 29) rfl) rfl (by omega) (by omega) ⟨rfl, rfl, ?_, fun i hi => (am_up_ne (show i ≠ 1005 from by omega)).trans ((am_up_ne (show i ≠ (2 * (K.length + 1) + 1009) from by omega)).trans ((am_up_ne (show i ≠ (2 * (K.length + 1) + 1008) from by omega)).trans ((am_up_ne (show i ≠ 1006 from by omega)).trans (rfl))))⟩
            rw [hE]
            exact ⟨am_up_eq _ _ _, ⟨_, _, _, (am_up_ne (show 1006 ≠ 1005 from by decide)).trans ((am_up_ne (show 1006 ≠ (2 * (K.length + 1) + 1009) from by omega)).trans ((am_up_ne (show 1006 ≠ (2 * (K.length + 1) + 1008) from by omega)).trans (am_up_eq _ _ _))), hv19⟩, (am_up_ne (show 1007 ≠ 1005 from by decide)).trans ((am_up_ne (show 1007 ≠ (2 * (K.length + 1) + 1009) from by omega)).trans ((am_up_ne (show 1007 ≠ (2 * (K.length + 1) + 1008) from by omega)).trans ((am_up_ne (show 1007 ≠ 1006 from by decide)).trans (h7)))), fun z => absurd z (by decide), ⟨⟨_, (am_up_ne (show (2 * (K.length + 1) + 1008) ≠ 1005 from by omega)).trans ((am_up_ne (show (2 * (K.length + 1) + 1008) ≠ (2 * (K.length + 1) + 1009) from by omega)).trans (am_up_eq _ _ _))⟩, (am_up_ne (show (2 * (K.length + 1) + 1009) ≠ 1005 from by omega)).trans (am_up_eq _ _ _), ⟨_, (am_up_ne (show (2 * K.length + 1008) ≠ 1005 from by omega)).trans ((am_up_ne (show (2 * K.length + 1008) ≠ (2 * (K.length + 1) + 1009) from by omega)).trans ((am_up_ne (show (2 * K.length + 1008) ≠ (2 * (K.length + 1) + 1008) from by omega)).trans ((am_up_ne (show (2 * K.length + 1008) ≠ 1006 from by omega)).trans (ht))))⟩, (am_up_ne (show (2 * K.length + 1009) ≠ 1005 from by omega)).trans ((am_up_ne (show (2 * K.length + 1009) ≠ (2 * (K.length + 1) + 1009) from by omega)).trans ((am_up_ne (show (2 * K.length + 1009) ≠ (2 * (K.length + 1) + 1008) from by omega)).trans ((am_up_ne (show (2 * K.length + 1009) ≠ 1006 from by omega)).trans (hf)))), cs_Kup hK (fun i z1 z2 => (am_up_ne (show i ≠ 1005 from by omega)).trans ((am_up_ne (show i ≠ (2 * (K.length + 1) + 1009) from by omega)).trans ((am_up_ne (show i ≠ (2 * (K.length + 1) + 1008) from by omega)).trans ((am_up_ne (show i ≠ 1006 from by omega)).trans (rfl)))))⟩, cs_Xup (cs_Xmo hX (Nat.le_succ _)) (fun i (z1 : 2 * (K.length + 2) + 1008 ≤ i) z2 => (am_up_ne (show i ≠ 1005 from by omega)).trans ((am_up_ne (show i ≠ (2 * (K.length + 1) + 1009) from by omega)).trans ((am_up_ne (show i ≠ (2 * (K.length + 1) + 1008) from by omega)).trans ((am_up_ne (show i ≠ 1006 from by omega)).trans (rfl))))), (am_up_ne (show 1208 ≠ 1005 from by decide)).trans ((am_up_ne (show 1208 ≠ (2 * (K.length + 1) + 1009) from by omega)).trans ((am_up_ne (show 1208 ≠ (2 * (K.length + 1) + 1008) from by omega)).trans ((am_up_ne (show 1208 ≠ 1006 from by decide)).trans (hle)))), (am_up_ne (show 1209 ≠ 1005 from by decide)).trans ((am_up_ne (show 1209 ≠ (2 * (K.length + 1) + 1009) from by omega)).trans ((am_up_ne (show 1209 ≠ (2 * (K.length + 1) + 1008) from by omega)).trans ((am_up_ne (show 1209 ≠ 1006 from by decide)).trans (hri)))), (am_up_ne (show 1210 ≠ 1005 from by decide)).trans ((am_up_ne (show 1210 ≠ (2 * (K.length + 1) + 1009) from by omega)).trans ((am_up_ne (show 1210 ≠ (2 * (K.length + 1) + 1008) from by omega)).trans ((am_up_ne (show 1210 ≠ 1006 from by decide)).trans (hla))))⟩
        · rcases h27 with ⟨hj9, h27, e1, e2⟩ | ⟨hj9, h27, ⟨ro9, tn9, mo9, pr9, ar9, e9, v9, a9, b9, hx1, hx2, e1⟩, e2⟩
          · cases h27
          · cases h27
set_option maxRecDepth 20000 in
theorem t_Rd_goOn1 (G : am_G) {d nx : Nat} (hd : 8 ≤ d) {M : am_M} {f : Nat → Int32} {n : Nat} (h1 : M 1001 = some (.inr (1, [.ref 1002, .int (nI n)]))) (h2 : M 1002 = some (.inl (0, 4096, .inl f))) (hn : n ≤ 4096) {K : List Frm} {nm ar sy ou a : Nat} {mo pr fa fb fe l0 l1 le r0 r1 re a0 b0 e : Int32} {fv lv rv v : Int64} {ro1 nm1 ar1 : Nat} {mo1 ge ga gb : Int32} {gv : Int64} (hl : K.length + 1 < 100) (hnm : nm < 26) (ha : a ≤ n) (he : ¬ (0 < kn_inf (tok f n a).2.2.2.2 ∧ kn_inf (tok f n a).2.2.2.2 ≤ mo ∧ pr ≤ kn_ml (tok f n a).2.2.2.2)) (hcs : cs f n M ((1, nm, mo, ar, (fe, fv, fa, fb)) :: (ro1, nm1, mo1, ar1, (ge, gv, ga, gb)) :: K, false, false, sy, -1, ou, pr, a, (le, lv, l0, l1), (re, rv, r0, r1), (e, v, a0, b0))) : am_Tr G m_Rd_goOn d 0 0 [.ref 1005] M nx (fun r M1 nx1 => r = .inl none ∧ nx1 = nx ∧ cs f n M1 (c_go f n ((1, nm, mo, ar, (fe, fv, fa, fb)) :: (ro1, nm1, mo1, ar1, (ge, gv, ga, gb)) :: K, false, false, sy, -1, ou, pr, a, (le, lv, l0, l1), (re, rv, r0, r1), (e, v, a0, b0))) ∧ cs_fr M M1) := by
  refine am_TrOf (by decide) (Nat.le_of_ble_eq_true rfl) ?_
  show am_V G _ _ _ _ _ 0 [(0, .ref 1005)] [] M nx 0 0
  obtain ⟨h5, ⟨nu, nf, nt, h6, hnu⟩, h7, qT, ⟨⟨pr0, ht⟩, hf, ⟨pr1, ht1⟩, hf1, hK⟩, hX, hle, hri, hla⟩ := hcs
  replace h5 : M 1005 = some (.inr (5, [.ref 1001, .ref 1003, .ref 1006, .ref 1007, .int (nI (K.length + 2)), .int 0, .int 0, .int (nI sy), .int (-1), .ref ou, .ref 1208, .ref 1209, .ref 1210])) := h5
  clear ht
  have ht := qT rfl
  replace ht : M (2 * (K.length + 1) + 1008) = some (.inr (7, [.ref 39, .ref nm, .int mo, .int pr, .int (nI ar), .ref (2 * (K.length + 1) + 1009)])) := ht
  replace hf : M (2 * (K.length + 1) + 1009) = some (.inr (8, [.int fe, .long fv, .int fa, .int fb])) := hf
  replace ht1 : M (2 * K.length + 1008) = some (.inr (7, [.ref (38 + ro1), .ref nm1, .int mo1, .int pr1, .int (nI ar1), .ref (2 * K.length + 1009)])) := ht1
  replace hf1 : M (2 * K.length + 1009) = some (.inr (8, [.int ge, .long gv, .int ga, .int gb])) := hf1
  replace hle : M 1208 = some (.inr (8, [.int le, .long lv, .int l0, .int l1])) := hle
  replace hri : M 1209 = some (.inr (8, [.int re, .long rv, .int r0, .int r1])) := hri
  replace hla : M 1210 = some (.inr (8, [.int e, .long v, .int a0, .int b0])) := hla
  have tk0 := tok_ok f ha
  have h62 : am_V G m_Rd_goOn d 0 0 (fun r M1 nx1 => r = .inl none ∧ nx1 = nx ∧ cs f n M1 (c_go f n ((1, nm, mo, ar, (fe, fv, fa, fb)) :: (ro1, nm1, mo1, ar1, (ge, gv, ga, gb)) :: K, false, false, sy, -1, ou, pr, a, (le, lv, l0, l1), (re, rv, r0, r1), (e, v, a0, b0))) ∧ cs_fr M M1) 62 [(2, .ref ((tok f n a).2.2.2.2)), (1, .ref (2 * (K.length + 1) + 1008)), (0, .ref 1005)] [] M nx 0 0 := by
    refine v_gets (v := .ref 50) (am_Dk d_Rd_goOn (k := 30) rfl) s_Rd_235 (by decide +kernel) ?_
    refine v_aload_n (am_Dk d_Rd_goOn (k := 31) rfl) rfl ?_
    refine v_get (am_Dk d_Rd_goOn (k := 32) rfl) f_Rd_109 ht rfl ?_
    refine v_callU (rest := [.ref 50]) (As := []) (mc' := 0) (ms' := 0) (am_Dk d_Rd_goOn (k := 33) rfl) c_Rd_238 (Or.inr (by decide +kernel)) (t_jE_ordinal G (d := 0) (k := 39) (v := 1) (by omega) (en_oR 1 (by decide))) (by omega) (by omega) (by omega) (by simp [Value.category]) rfl (fun v1 M2 n3 h4 => ?_) (fun _ _ _ h4 => ?_)
    rotate_left
    · exact absurd h4.1 (by simp)
    obtain ⟨h4, e5, e6⟩ := h4
    replace e5 := e5.symm
    replace e6 := e6.symm
    subst e5
    subst e6
    cases h4
    show am_V G _ _ _ _ _ 72 [(2, .ref ((tok f n a).2.2.2.2)), (1, .ref (2 * (K.length + 1) + 1008)), (0, .ref 1005)] [.int 1, .ref 50] M nx 0 0
    refine v_tiald (v := .int 1) (am_Dk d_Rd_goOn (k := 34) rfl) (List.mem_of_getElem? (i := 0) rfl) (show ¬ (_ ∨ _) from by decide) (by decide) ?_
    refine v_tableIn (tgt := 112) (off := 39) (am_Dk d_Rd_goOn (k := 35) rfl) (by decide) (by decide) (by decide) (by decide) ?_
    refine v_aload_n (am_Dk d_Rd_goOn (k := 36) rfl) rfl ?_
    refine v_callV (rest := []) (As := []) (mc' := 0) (ms' := 0) (am_Dk d_Rd_goOn (k := 37) rfl) c_Rd_239 (Or.inl ⟨_, _, _, _, _, h5, cq_ok5⟩) (t_Rd_endParentheses G (d := 7) (by omega) h1 h2 hn (by omega) hnm (by omega) (show cs f n M ((1, nm, mo, ar, (fe, fv, fa, fb)) :: (ro1, nm1, mo1, ar1, (ge, gv, ga, gb)) :: K, false, false, sy, -1, ou, pr, a, (le, lv, l0, l1), (re, rv, r0, r1), (e, v, a0, b0)) from ⟨h5, ⟨_, _, _, h6, hnu⟩, h7, fun _ => ht, ⟨⟨_, ht⟩, hf, ⟨_, ht1⟩, hf1, cs_Kup hK (fun i z1 z2 => rfl)⟩, cs_Xup hX (fun i (z1 : 2 * (K.length + 2) + 1008 ≤ i) z2 => rfl), hle, hri, hla⟩)) (by omega) (by omega) (by omega) (by simp [Value.category]) rfl (fun v7 M8 n9 h10 => ?_) (fun _ _ _ h10 => ?_)
    rotate_left
    · exact absurd h10.1 (by simp)
    obtain ⟨h10, e13, hc11, hf12⟩ := h10
    replace e13 := e13.symm
    subst e13
    cases h10
    show am_V G _ _ _ _ _ 116 [(2, .ref ((tok f n a).2.2.2.2)), (1, .ref (2 * (K.length + 1) + 1008)), (0, .ref 1005)] [] M8 nx 0 0
    refine v_goto (tgt := 200) (am_Dk d_Rd_goOn (k := 38) rfl) (by decide) ?_
    have hE : c_go f n ((1, nm, mo, ar, (fe, fv, fa, fb)) :: (ro1, nm1, mo1, ar1, (ge, gv, ga, gb)) :: K, false, false, sy, -1, ou, pr, a, (le, lv, l0, l1), (re, rv, r0, r1), (e, v, a0, b0)) = c_eP f n ((1, nm, mo, ar, (fe, fv, fa, fb)) :: (ro1, nm1, mo1, ar1, (ge, gv, ga, gb)) :: K, false, false, sy, -1, ou, pr, a, (le, lv, l0, l1), (re, rv, r0, r1), (e, v, a0, b0)) := by
      rw [c_go, if_neg he, if_pos rfl]
    refine v_return (am_Dk d_Rd_goOn (k := 78) rfl) rfl (by omega) (by omega) ⟨rfl, rfl, ?_, fun i hi => (hf12 i hi).trans (rfl)⟩
    rw [hE]
    exact hc11
  refine v_aload_n (am_Dk d_Rd_goOn (k := 0) rfl) rfl ?_
  refine v_callV (rest := []) (As := []) (mc' := 0) (ms' := 0) (am_Dk d_Rd_goOn (k := 1) rfl) c_Rd_127 (Or.inl ⟨_, _, _, _, _, h5, cq_ok5⟩) (t_Rd_innermost G (d := 0) (j := K.length + 1) (dp := 0) (by omega) (by omega) h5 h7) (by omega) (by omega) (by omega) (by simp [Value.category]) rfl (fun v1 M2 n3 h4 => ?_) (fun _ _ _ h4 => ?_)
  rotate_left
  · exact absurd h4.1 (by simp)
  obtain ⟨h4, e5, e6⟩ := h4
  replace e5 := e5.symm
  replace e6 := e6.symm
  subst e5
  subst e6
  cases h4
  show am_V G _ _ _ _ _ 4 [(0, .ref 1005)] [.ref (2 * (K.length + 1) + 1008)] M nx 0 0
  refine v_astore_n (L1 := [(1, .ref (2 * (K.length + 1) + 1008)), (0, .ref 1005)]) (am_Dk d_Rd_goOn (k := 2) rfl) (by decide) rfl ?_
  refine v_aload_n (am_Dk d_Rd_goOn (k := 3) rfl) rfl ?_
  refine v_get (am_Dk d_Rd_goOn (k := 4) rfl) f_Rd_24 h5 rfl ?_
  refine v_get (am_Dk d_Rd_goOn (k := 5) rfl) f_Rd_200 h6 rfl ?_
  refine v_astore_n (L1 := [(2, .ref ((tok f n a).2.2.2.2)), (1, .ref (2 * (K.length + 1) + 1008)), (0, .ref 1005)]) (am_Dk d_Rd_goOn (k := 6) rfl) (by decide) rfl ?_
  refine v_aload_n (am_Dk d_Rd_goOn (k := 7) rfl) rfl ?_
  refine v_getK (i := (tok f n a).2.2.2.2) (v := .int (kn_inf ((tok f n a).2.2.2.2))) (am_Dk d_Rd_goOn (k := 8) rfl) g_Rd_223 (Or.inl rfl) (kn_inf_k _ (by omega)) ?_
  refine v_if_le (tgt := 62) (am_Dk d_Rd_goOn (k := 9) rfl) (by decide) (fun c7 => ?_) (fun c7 => ?_)
  · exact h62
  · have p1 := Int32.not_le.mp c7
    refine v_aload_n (am_Dk d_Rd_goOn (k := 10) rfl) rfl ?_
    refine v_getK (i := (tok f n a).2.2.2.2) (v := .int (kn_inf ((tok f n a).2.2.2.2))) (am_Dk d_Rd_goOn (k := 11) rfl) g_Rd_223 (Or.inl rfl) (kn_inf_k _ (by omega)) ?_
    refine v_aload_n (am_Dk d_Rd_goOn (k := 12) rfl) rfl ?_
    refine v_get (am_Dk d_Rd_goOn (k := 13) rfl) f_Rd_115 ht rfl ?_
    refine v_icmp_gt (tgt := 62) (am_Dk d_Rd_goOn (k := 14) rfl) (by decide) (fun c8 => ?_) (fun c8 => ?_)
    · exact h62
    · have p2 := Int32.not_lt.mp c8
      refine v_aload_n (am_Dk d_Rd_goOn (k := 15) rfl) rfl ?_
      refine v_get (am_Dk d_Rd_goOn (k := 16) rfl) f_Rd_131 ht rfl ?_
      refine v_aload_n (am_Dk d_Rd_goOn (k := 17) rfl) rfl ?_
      refine v_getK (i := (tok f n a).2.2.2.2) (v := .int (kn_ml ((tok f n a).2.2.2.2))) (am_Dk d_Rd_goOn (k := 18) rfl) g_Rd_226 (Or.inl rfl) (kn_ml_k _ (by omega)) ?_
      refine v_icmp_gt (tgt := 62) (am_Dk d_Rd_goOn (k := 19) rfl) (by decide) (fun c9 => ?_) (fun c9 => ?_)
      · exact h62
      · exact absurd ⟨p1, p2, Int32.not_lt.mp c9⟩ he
set_option maxRecDepth 20000 in
theorem t_Rd_goOn2 (G : am_G) {d nx : Nat} (hd : 8 ≤ d) {M : am_M} {f : Nat → Int32} {n : Nat} (h1 : M 1001 = some (.inr (1, [.ref 1002, .int (nI n)]))) (h2 : M 1002 = some (.inl (0, 4096, .inl f))) (hn : n ≤ 4096) {K : List Frm} {nm ar sy ou a : Nat} {mo pr fa fb fe l0 l1 le r0 r1 re a0 b0 e : Int32} {fv lv rv v : Int64} {ro1 nm1 ar1 : Nat} {mo1 ge ga gb : Int32} {gv : Int64} (hl : K.length + 1 < 100) (hnm : nm < 26) (ha : a ≤ n) (he : ¬ (0 < kn_inf (tok f n a).2.2.2.2 ∧ kn_inf (tok f n a).2.2.2.2 ≤ mo ∧ pr ≤ kn_ml (tok f n a).2.2.2.2)) (hcs : cs f n M ((2, nm, mo, ar, (fe, fv, fa, fb)) :: (ro1, nm1, mo1, ar1, (ge, gv, ga, gb)) :: K, false, false, sy, -1, ou, pr, a, (le, lv, l0, l1), (re, rv, r0, r1), (e, v, a0, b0))) : am_Tr G m_Rd_goOn d 0 0 [.ref 1005] M nx (fun r M1 nx1 => r = .inl none ∧ nx1 = nx ∧ cs f n M1 (c_go f n ((2, nm, mo, ar, (fe, fv, fa, fb)) :: (ro1, nm1, mo1, ar1, (ge, gv, ga, gb)) :: K, false, false, sy, -1, ou, pr, a, (le, lv, l0, l1), (re, rv, r0, r1), (e, v, a0, b0))) ∧ cs_fr M M1) := by
  refine am_TrOf (by decide) (Nat.le_of_ble_eq_true rfl) ?_
  show am_V G _ _ _ _ _ 0 [(0, .ref 1005)] [] M nx 0 0
  obtain ⟨h5, ⟨nu, nf, nt, h6, hnu⟩, h7, qT, ⟨⟨pr0, ht⟩, hf, ⟨pr1, ht1⟩, hf1, hK⟩, hX, hle, hri, hla⟩ := hcs
  replace h5 : M 1005 = some (.inr (5, [.ref 1001, .ref 1003, .ref 1006, .ref 1007, .int (nI (K.length + 2)), .int 0, .int 0, .int (nI sy), .int (-1), .ref ou, .ref 1208, .ref 1209, .ref 1210])) := h5
  clear ht
  have ht := qT rfl
  replace ht : M (2 * (K.length + 1) + 1008) = some (.inr (7, [.ref 40, .ref nm, .int mo, .int pr, .int (nI ar), .ref (2 * (K.length + 1) + 1009)])) := ht
  replace hf : M (2 * (K.length + 1) + 1009) = some (.inr (8, [.int fe, .long fv, .int fa, .int fb])) := hf
  replace ht1 : M (2 * K.length + 1008) = some (.inr (7, [.ref (38 + ro1), .ref nm1, .int mo1, .int pr1, .int (nI ar1), .ref (2 * K.length + 1009)])) := ht1
  replace hf1 : M (2 * K.length + 1009) = some (.inr (8, [.int ge, .long gv, .int ga, .int gb])) := hf1
  replace hle : M 1208 = some (.inr (8, [.int le, .long lv, .int l0, .int l1])) := hle
  replace hri : M 1209 = some (.inr (8, [.int re, .long rv, .int r0, .int r1])) := hri
  replace hla : M 1210 = some (.inr (8, [.int e, .long v, .int a0, .int b0])) := hla
  have tk0 := tok_ok f ha
  have h62 : am_V G m_Rd_goOn d 0 0 (fun r M1 nx1 => r = .inl none ∧ nx1 = nx ∧ cs f n M1 (c_go f n ((2, nm, mo, ar, (fe, fv, fa, fb)) :: (ro1, nm1, mo1, ar1, (ge, gv, ga, gb)) :: K, false, false, sy, -1, ou, pr, a, (le, lv, l0, l1), (re, rv, r0, r1), (e, v, a0, b0))) ∧ cs_fr M M1) 62 [(2, .ref ((tok f n a).2.2.2.2)), (1, .ref (2 * (K.length + 1) + 1008)), (0, .ref 1005)] [] M nx 0 0 := by
    refine v_gets (v := .ref 50) (am_Dk d_Rd_goOn (k := 30) rfl) s_Rd_235 (by decide +kernel) ?_
    refine v_aload_n (am_Dk d_Rd_goOn (k := 31) rfl) rfl ?_
    refine v_get (am_Dk d_Rd_goOn (k := 32) rfl) f_Rd_109 ht rfl ?_
    refine v_callU (rest := [.ref 50]) (As := []) (mc' := 0) (ms' := 0) (am_Dk d_Rd_goOn (k := 33) rfl) c_Rd_238 (Or.inr (by decide +kernel)) (t_jE_ordinal G (d := 0) (k := 40) (v := 2) (by omega) (en_oR 2 (by decide))) (by omega) (by omega) (by omega) (by simp [Value.category]) rfl (fun v1 M2 n3 h4 => ?_) (fun _ _ _ h4 => ?_)
    rotate_left
    · exact absurd h4.1 (by simp)
    obtain ⟨h4, e5, e6⟩ := h4
    replace e5 := e5.symm
    replace e6 := e6.symm
    subst e5
    subst e6
    cases h4
    show am_V G _ _ _ _ _ 72 [(2, .ref ((tok f n a).2.2.2.2)), (1, .ref (2 * (K.length + 1) + 1008)), (0, .ref 1005)] [.int 2, .ref 50] M nx 0 0
    refine v_tiald (v := .int 2) (am_Dk d_Rd_goOn (k := 34) rfl) (List.mem_of_getElem? (i := 0) rfl) (show ¬ (_ ∨ _) from by decide) (by decide) ?_
    refine v_tableIn (tgt := 119) (off := 46) (am_Dk d_Rd_goOn (k := 35) rfl) (by decide) (by decide) (by decide) (by decide) ?_
    refine v_aload_n (am_Dk d_Rd_goOn (k := 39) rfl) rfl ?_
    refine v_aload_n (am_Dk d_Rd_goOn (k := 40) rfl) rfl ?_
    refine v_get (am_Dk d_Rd_goOn (k := 41) rfl) f_Rd_112 ht rfl ?_
    refine v_iconst (v := 1) (am_Dk d_Rd_goOn (k := 42) rfl) (by decide) ?_
    refine v_aload_n (am_Dk d_Rd_goOn (k := 43) rfl) rfl ?_
    refine v_get9 (am_Dk d_Rd_goOn (k := 44) rfl) r_Rd_121 ht rfl ?_
    refine v_callV (rest := []) (As := [.ref nm, .int 1, .ref (2 * (K.length + 1) + 1009)]) (mc' := 0) (ms' := 0) (am_Dk d_Rd_goOn (k := 45) rfl) c_Rd_242 (Or.inl ⟨_, _, _, _, _, h5, cq_ok5⟩) (t_Rd_combine G (d := 3) (k := nm) (m := nI 1) (by omega) h5 (by omega) ⟨by omega, by omega, by omega, by omega⟩ hf hla hle hri) (by omega) (by omega) (by omega) (by simp [Value.category]) rfl (fun v7 M8 n9 h10 => ?_) (fun _ _ _ h10 => ?_)
    rotate_left
    · exact absurd h10.1 (by simp)
    obtain ⟨h10, e11, e12⟩ := h10
    replace e11 := e11.symm
    replace e12 := e12.symm
    subst e11
    subst e12
    cases h10
    rw [nI_1]
    show am_V G _ _ _ _ _ 132 [(2, .ref ((tok f n a).2.2.2.2)), (1, .ref (2 * (K.length + 1) + 1008)), (0, .ref 1005)] [] (am_up (am_up (am_up (am_up M 1005 (.inr (5, [.ref 1001, .ref 1003, .ref 1006, .ref 1007, .int (nI (K.length + 2)), .int 0, .int 0, .int (nI (sy + 1)), .int (-1), .ref (if nI 1 = 2 then nm else 0), .ref 1208, .ref 1209, .ref 1210]))) 1208 (.inr (8, [.int fe, .long fv, .int fa, .int fb]))) 1209 (.inr (8, [.int e, .long v, .int a0, .int b0]))) 1210 (.inr (8, [.int (cbn (nI 1) nm fe fv e v).1, .long (cbn (nI 1) nm fe fv e v).2, .int 0, .int 0]))) nx 0 0
    refine v_aload_n (am_Dk d_Rd_goOn (k := 46) rfl) rfl ?_
    refine v_aload_n (am_Dk d_Rd_goOn (k := 47) rfl) rfl ?_
    have m13 : (am_up (am_up (am_up (am_up M 1005 (.inr (5, [.ref 1001, .ref 1003, .ref 1006, .ref 1007, .int (nI (K.length + 2)), .int 0, .int 0, .int (nI (sy + 1)), .int (-1), .ref (if nI 1 = 2 then nm else 0), .ref 1208, .ref 1209, .ref 1210]))) 1208 (.inr (8, [.int fe, .long fv, .int fa, .int fb]))) 1209 (.inr (8, [.int e, .long v, .int a0, .int b0]))) 1210 (.inr (8, [.int (cbn (nI 1) nm fe fv e v).1, .long (cbn (nI 1) nm fe fv e v).2, .int 0, .int 0]))) (2 * (K.length + 1) + 1008) = some (.inr (7, [.ref 40, .ref nm, .int mo, .int pr, .int (nI ar), .ref (2 * (K.length + 1) + 1009)])) := (am_up_ne (show (2 * (K.length + 1) + 1008) ≠ 1210 from by omega)).trans ((am_up_ne (show (2 * (K.length + 1) + 1008) ≠ 1209 from by omega)).trans ((am_up_ne (show (2 * (K.length + 1) + 1008) ≠ 1208 from by omega)).trans ((am_up_ne (show (2 * (K.length + 1) + 1008) ≠ 1005 from by omega)).trans (ht))))
    refine v_get (am_Dk d_Rd_goOn (k := 48) rfl) f_Rd_112 m13 rfl ?_
    refine v_getK (i := nm) (v := .int (kn_pf nm)) (am_Dk d_Rd_goOn (k := 49) rfl) g_Rd_213 (Or.inl rfl) (kn_pf_k _ (by omega)) ?_
    have m14 : (am_up (am_up (am_up (am_up M 1005 (.inr (5, [.ref 1001, .ref 1003, .ref 1006, .ref 1007, .int (nI (K.length + 2)), .int 0, .int 0, .int (nI (sy + 1)), .int (-1), .ref (if nI 1 = 2 then nm else 0), .ref 1208, .ref 1209, .ref 1210]))) 1208 (.inr (8, [.int fe, .long fv, .int fa, .int fb]))) 1209 (.inr (8, [.int e, .long v, .int a0, .int b0]))) 1210 (.inr (8, [.int (cbn (nI 1) nm fe fv e v).1, .long (cbn (nI 1) nm fe fv e v).2, .int 0, .int 0]))) 1005 = some (.inr (5, [.ref 1001, .ref 1003, .ref 1006, .ref 1007, .int (nI (K.length + 2)), .int 0, .int 0, .int (nI (sy + 1)), .int (-1), .ref (if nI 1 = 2 then nm else 0), .ref 1208, .ref 1209, .ref 1210])) := (am_up_ne (show 1005 ≠ 1210 from by decide)).trans ((am_up_ne (show 1005 ≠ 1209 from by decide)).trans ((am_up_ne (show 1005 ≠ 1208 from by decide)).trans (am_up_eq _ _ _)))
    have m15 : (am_up (am_up (am_up (am_up M 1005 (.inr (5, [.ref 1001, .ref 1003, .ref 1006, .ref 1007, .int (nI (K.length + 2)), .int 0, .int 0, .int (nI (sy + 1)), .int (-1), .ref (if nI 1 = 2 then nm else 0), .ref 1208, .ref 1209, .ref 1210]))) 1208 (.inr (8, [.int fe, .long fv, .int fa, .int fb]))) 1209 (.inr (8, [.int e, .long v, .int a0, .int b0]))) 1210 (.inr (8, [.int (cbn (nI 1) nm fe fv e v).1, .long (cbn (nI 1) nm fe fv e v).2, .int 0, .int 0]))) 1007 = some (.inl (4, 100, .inr (.inr (.inr (.inr (ci_arr 100)))))) := (am_up_ne (show 1007 ≠ 1210 from by decide)).trans ((am_up_ne (show 1007 ≠ 1209 from by decide)).trans ((am_up_ne (show 1007 ≠ 1208 from by decide)).trans ((am_up_ne (show 1007 ≠ 1005 from by decide)).trans (h7))))
    have m16 : (am_up (am_up (am_up (am_up M 1005 (.inr (5, [.ref 1001, .ref 1003, .ref 1006, .ref 1007, .int (nI (K.length + 2)), .int 0, .int 0, .int (nI (sy + 1)), .int (-1), .ref (if nI 1 = 2 then nm else 0), .ref 1208, .ref 1209, .ref 1210]))) 1208 (.inr (8, [.int fe, .long fv, .int fa, .int fb]))) 1209 (.inr (8, [.int e, .long v, .int a0, .int b0]))) 1210 (.inr (8, [.int (cbn (nI 1) nm fe fv e v).1, .long (cbn (nI 1) nm fe fv e v).2, .int 0, .int 0]))) (2 * K.length + 1008) = some (.inr (7, [.ref (38 + ro1), .ref nm1, .int mo1, .int pr1, .int (nI ar1), .ref (2 * K.length + 1009)])) := (am_up_ne (show (2 * K.length + 1008) ≠ 1210 from by omega)).trans ((am_up_ne (show (2 * K.length + 1008) ≠ 1209 from by omega)).trans ((am_up_ne (show (2 * K.length + 1008) ≠ 1208 from by omega)).trans ((am_up_ne (show (2 * K.length + 1008) ≠ 1005 from by omega)).trans (ht1))))
    refine v_callV (rest := []) (As := [.int (kn_pf nm)]) (mc' := 0) (ms' := 0) (am_Dk d_Rd_goOn (k := 50) rfl) c_Rd_246 (Or.inl ⟨_, _, _, _, _, m14, cq_ok5⟩) (t_Rd_leave G (d := 1) (j := K.length) (dp := 0) (by omega) (by omega) m14 m15 m16) (by omega) (by omega) (by omega) (by simp [Value.category]) rfl (fun v17 M18 n19 h20 => ?_) (fun _ _ _ h20 => ?_)
    rotate_left
    · exact absurd h20.1 (by simp)
    obtain ⟨h20, e21, e22⟩ := h20
    replace e21 := e21.symm
    replace e22 := e22.symm
    subst e21
    subst e22
    cases h20
    rw [am_uu3 (a := 1005)]
    show am_V G _ _ _ _ _ 143 [(2, .ref ((tok f n a).2.2.2.2)), (1, .ref (2 * (K.length + 1) + 1008)), (0, .ref 1005)] [] (am_up (am_up (am_up (am_up (am_up M 1208 (.inr (8, [.int fe, .long fv, .int fa, .int fb]))) 1209 (.inr (8, [.int e, .long v, .int a0, .int b0]))) 1210 (.inr (8, [.int (cbn (nI 1) nm fe fv e v).1, .long (cbn (nI 1) nm fe fv e v).2, .int 0, .int 0]))) 1005 (.inr (5, [.ref 1001, .ref 1003, .ref 1006, .ref 1007, .int (nI (K.length + 1)), .int 0, .int 0, .int (nI (sy + 1)), .int (-1), .ref (if nI 1 = 2 then nm else 0), .ref 1208, .ref 1209, .ref 1210]))) (2 * K.length + 1008) (.inr (7, [.ref (38 + ro1), .ref nm1, .int mo1, .int (kn_pf nm), .int (nI ar1), .ref (2 * K.length + 1009)]))) nx 0 0
    refine v_goto (tgt := 200) (am_Dk d_Rd_goOn (k := 51) rfl) (by decide) ?_
    have hE : c_go f n ((2, nm, mo, ar, (fe, fv, fa, fb)) :: (ro1, nm1, mo1, ar1, (ge, gv, ga, gb)) :: K, false, false, sy, -1, ou, pr, a, (le, lv, l0, l1), (re, rv, r0, r1), (e, v, a0, b0)) = ((ro1, nm1, mo1, ar1, (ge, gv, ga, gb)) :: K, false, false, sy + 1, -1, if nI 1 = 2 then nm else 0, kn_pf nm, a, (fe, fv, fa, fb), (e, v, a0, b0), ((cbn (nI 1) nm fe fv e v).1, (cbn (nI 1) nm fe fv e v).2, 0, 0)) := by
      rw [c_go, if_neg he, if_neg (by decide), if_pos rfl, c_cmb, c_lv]
      try rfl
    refine v_return (am_Dk d_Rd_goOn (k := 78) rfl) rfl (by omega) (by omega) ⟨rfl, rfl, ?_, fun i hi => (am_up_ne (show i ≠ (2 * K.length + 1008) from by omega)).trans ((am_up_ne (show i ≠ 1005 from by omega)).trans ((am_up_ne (show i ≠ 1210 from by omega)).trans ((am_up_ne (show i ≠ 1209 from by omega)).trans ((am_up_ne (show i ≠ 1208 from by omega)).trans (rfl)))))⟩
    rw [hE]
    exact ⟨(am_up_ne (show 1005 ≠ (2 * K.length + 1008) from by omega)).trans (am_up_eq _ _ _), ⟨_, _, _, (am_up_ne (show 1006 ≠ (2 * K.length + 1008) from by omega)).trans ((am_up_ne (show 1006 ≠ 1005 from by decide)).trans ((am_up_ne (show 1006 ≠ 1210 from by decide)).trans ((am_up_ne (show 1006 ≠ 1209 from by decide)).trans ((am_up_ne (show 1006 ≠ 1208 from by decide)).trans (h6))))), hnu⟩, (am_up_ne (show 1007 ≠ (2 * K.length + 1008) from by omega)).trans ((am_up_ne (show 1007 ≠ 1005 from by decide)).trans ((am_up_ne (show 1007 ≠ 1210 from by decide)).trans ((am_up_ne (show 1007 ≠ 1209 from by decide)).trans ((am_up_ne (show 1007 ≠ 1208 from by decide)).trans (h7))))), fun _ => am_up_eq _ _ _, ⟨⟨_, am_up_eq _ _ _⟩, (am_up_ne (show (2 * K.length + 1009) ≠ (2 * K.length + 1008) from by omega)).trans ((am_up_ne (show (2 * K.length + 1009) ≠ 1005 from by omega)).trans ((am_up_ne (show (2 * K.length + 1009) ≠ 1210 from by omega)).trans ((am_up_ne (show (2 * K.length + 1009) ≠ 1209 from by omega)).trans ((am_up_ne (show (2 * K.length + 1009) ≠ 1208 from by omega)).trans (hf1))))), cs_Kup hK (fun i z1 z2 => (am_up_ne (show i ≠ (2 * K.length + 1008) from by omega)).trans ((am_up_ne (show i ≠ 1005 from by omega)).trans ((am_up_ne (show i ≠ 1210 from by omega)).trans ((am_up_ne (show i ≠ 1209 from by omega)).trans ((am_up_ne (show i ≠ 1208 from by omega)).trans (rfl))))))⟩, cs_Xdn (cs_Xup hX (fun i (z1 : 2 * (K.length + 2) + 1008 ≤ i) z2 => (am_up_ne (show i ≠ (2 * K.length + 1008) from by omega)).trans ((am_up_ne (show i ≠ 1005 from by omega)).trans ((am_up_ne (show i ≠ 1210 from by omega)).trans ((am_up_ne (show i ≠ 1209 from by omega)).trans ((am_up_ne (show i ≠ 1208 from by omega)).trans (rfl))))))) ((am_up_ne (show (2 * (K.length + 1) + 1008) ≠ (2 * K.length + 1008) from by omega)).trans ((am_up_ne (show (2 * (K.length + 1) + 1008) ≠ 1005 from by omega)).trans ((am_up_ne (show (2 * (K.length + 1) + 1008) ≠ 1210 from by omega)).trans ((am_up_ne (show (2 * (K.length + 1) + 1008) ≠ 1209 from by omega)).trans ((am_up_ne (show (2 * (K.length + 1) + 1008) ≠ 1208 from by omega)).trans (ht)))))) ((am_up_ne (show (2 * (K.length + 1) + 1009) ≠ (2 * K.length + 1008) from by omega)).trans ((am_up_ne (show (2 * (K.length + 1) + 1009) ≠ 1005 from by omega)).trans ((am_up_ne (show (2 * (K.length + 1) + 1009) ≠ 1210 from by omega)).trans ((am_up_ne (show (2 * (K.length + 1) + 1009) ≠ 1209 from by omega)).trans ((am_up_ne (show (2 * (K.length + 1) + 1009) ≠ 1208 from by omega)).trans (hf)))))), (am_up_ne (show 1208 ≠ (2 * K.length + 1008) from by omega)).trans ((am_up_ne (show 1208 ≠ 1005 from by decide)).trans ((am_up_ne (show 1208 ≠ 1210 from by decide)).trans ((am_up_ne (show 1208 ≠ 1209 from by decide)).trans (am_up_eq _ _ _)))), (am_up_ne (show 1209 ≠ (2 * K.length + 1008) from by omega)).trans ((am_up_ne (show 1209 ≠ 1005 from by decide)).trans ((am_up_ne (show 1209 ≠ 1210 from by decide)).trans (am_up_eq _ _ _))), (am_up_ne (show 1210 ≠ (2 * K.length + 1008) from by omega)).trans ((am_up_ne (show 1210 ≠ 1005 from by decide)).trans (am_up_eq _ _ _))⟩
  refine v_aload_n (am_Dk d_Rd_goOn (k := 0) rfl) rfl ?_
  refine v_callV (rest := []) (As := []) (mc' := 0) (ms' := 0) (am_Dk d_Rd_goOn (k := 1) rfl) c_Rd_127 (Or.inl ⟨_, _, _, _, _, h5, cq_ok5⟩) (t_Rd_innermost G (d := 0) (j := K.length + 1) (dp := 0) (by omega) (by omega) h5 h7) (by omega) (by omega) (by omega) (by simp [Value.category]) rfl (fun v1 M2 n3 h4 => ?_) (fun _ _ _ h4 => ?_)
  rotate_left
  · exact absurd h4.1 (by simp)
  obtain ⟨h4, e5, e6⟩ := h4
  replace e5 := e5.symm
  replace e6 := e6.symm
  subst e5
  subst e6
  cases h4
  show am_V G _ _ _ _ _ 4 [(0, .ref 1005)] [.ref (2 * (K.length + 1) + 1008)] M nx 0 0
  refine v_astore_n (L1 := [(1, .ref (2 * (K.length + 1) + 1008)), (0, .ref 1005)]) (am_Dk d_Rd_goOn (k := 2) rfl) (by decide) rfl ?_
  refine v_aload_n (am_Dk d_Rd_goOn (k := 3) rfl) rfl ?_
  refine v_get (am_Dk d_Rd_goOn (k := 4) rfl) f_Rd_24 h5 rfl ?_
  refine v_get (am_Dk d_Rd_goOn (k := 5) rfl) f_Rd_200 h6 rfl ?_
  refine v_astore_n (L1 := [(2, .ref ((tok f n a).2.2.2.2)), (1, .ref (2 * (K.length + 1) + 1008)), (0, .ref 1005)]) (am_Dk d_Rd_goOn (k := 6) rfl) (by decide) rfl ?_
  refine v_aload_n (am_Dk d_Rd_goOn (k := 7) rfl) rfl ?_
  refine v_getK (i := (tok f n a).2.2.2.2) (v := .int (kn_inf ((tok f n a).2.2.2.2))) (am_Dk d_Rd_goOn (k := 8) rfl) g_Rd_223 (Or.inl rfl) (kn_inf_k _ (by omega)) ?_
  refine v_if_le (tgt := 62) (am_Dk d_Rd_goOn (k := 9) rfl) (by decide) (fun c7 => ?_) (fun c7 => ?_)
  · exact h62
  · have p1 := Int32.not_le.mp c7
    refine v_aload_n (am_Dk d_Rd_goOn (k := 10) rfl) rfl ?_
    refine v_getK (i := (tok f n a).2.2.2.2) (v := .int (kn_inf ((tok f n a).2.2.2.2))) (am_Dk d_Rd_goOn (k := 11) rfl) g_Rd_223 (Or.inl rfl) (kn_inf_k _ (by omega)) ?_
    refine v_aload_n (am_Dk d_Rd_goOn (k := 12) rfl) rfl ?_
    refine v_get (am_Dk d_Rd_goOn (k := 13) rfl) f_Rd_115 ht rfl ?_
    refine v_icmp_gt (tgt := 62) (am_Dk d_Rd_goOn (k := 14) rfl) (by decide) (fun c8 => ?_) (fun c8 => ?_)
    · exact h62
    · have p2 := Int32.not_lt.mp c8
      refine v_aload_n (am_Dk d_Rd_goOn (k := 15) rfl) rfl ?_
      refine v_get (am_Dk d_Rd_goOn (k := 16) rfl) f_Rd_131 ht rfl ?_
      refine v_aload_n (am_Dk d_Rd_goOn (k := 17) rfl) rfl ?_
      refine v_getK (i := (tok f n a).2.2.2.2) (v := .int (kn_ml ((tok f n a).2.2.2.2))) (am_Dk d_Rd_goOn (k := 18) rfl) g_Rd_226 (Or.inl rfl) (kn_ml_k _ (by omega)) ?_
      refine v_icmp_gt (tgt := 62) (am_Dk d_Rd_goOn (k := 19) rfl) (by decide) (fun c9 => ?_) (fun c9 => ?_)
      · exact h62
      · exact absurd ⟨p1, p2, Int32.not_lt.mp c9⟩ he
set_option maxRecDepth 20000 in
theorem t_Rd_goOn3 (G : am_G) {d nx : Nat} (hd : 8 ≤ d) {M : am_M} {f : Nat → Int32} {n : Nat} (h1 : M 1001 = some (.inr (1, [.ref 1002, .int (nI n)]))) (h2 : M 1002 = some (.inl (0, 4096, .inl f))) (hn : n ≤ 4096) {K : List Frm} {nm ar sy ou a : Nat} {mo pr fa fb fe l0 l1 le r0 r1 re a0 b0 e : Int32} {fv lv rv v : Int64} {ro1 nm1 ar1 : Nat} {mo1 ge ga gb : Int32} {gv : Int64} (hl : K.length + 1 < 100) (hnm : nm < 26) (ha : a ≤ n) (he : ¬ (0 < kn_inf (tok f n a).2.2.2.2 ∧ kn_inf (tok f n a).2.2.2.2 ≤ mo ∧ pr ≤ kn_ml (tok f n a).2.2.2.2)) (hcs : cs f n M ((3, nm, mo, ar, (fe, fv, fa, fb)) :: (ro1, nm1, mo1, ar1, (ge, gv, ga, gb)) :: K, false, false, sy, -1, ou, pr, a, (le, lv, l0, l1), (re, rv, r0, r1), (e, v, a0, b0))) : am_Tr G m_Rd_goOn d 0 0 [.ref 1005] M nx (fun r M1 nx1 => r = .inl none ∧ nx1 = nx ∧ cs f n M1 (c_go f n ((3, nm, mo, ar, (fe, fv, fa, fb)) :: (ro1, nm1, mo1, ar1, (ge, gv, ga, gb)) :: K, false, false, sy, -1, ou, pr, a, (le, lv, l0, l1), (re, rv, r0, r1), (e, v, a0, b0))) ∧ cs_fr M M1) := by
  refine am_TrOf (by decide) (Nat.le_of_ble_eq_true rfl) ?_
  show am_V G _ _ _ _ _ 0 [(0, .ref 1005)] [] M nx 0 0
  obtain ⟨h5, ⟨nu, nf, nt, h6, hnu⟩, h7, qT, ⟨⟨pr0, ht⟩, hf, ⟨pr1, ht1⟩, hf1, hK⟩, hX, hle, hri, hla⟩ := hcs
  replace h5 : M 1005 = some (.inr (5, [.ref 1001, .ref 1003, .ref 1006, .ref 1007, .int (nI (K.length + 2)), .int 0, .int 0, .int (nI sy), .int (-1), .ref ou, .ref 1208, .ref 1209, .ref 1210])) := h5
  clear ht
  have ht := qT rfl
  replace ht : M (2 * (K.length + 1) + 1008) = some (.inr (7, [.ref 41, .ref nm, .int mo, .int pr, .int (nI ar), .ref (2 * (K.length + 1) + 1009)])) := ht
  replace hf : M (2 * (K.length + 1) + 1009) = some (.inr (8, [.int fe, .long fv, .int fa, .int fb])) := hf
  replace ht1 : M (2 * K.length + 1008) = some (.inr (7, [.ref (38 + ro1), .ref nm1, .int mo1, .int pr1, .int (nI ar1), .ref (2 * K.length + 1009)])) := ht1
  replace hf1 : M (2 * K.length + 1009) = some (.inr (8, [.int ge, .long gv, .int ga, .int gb])) := hf1
  replace hle : M 1208 = some (.inr (8, [.int le, .long lv, .int l0, .int l1])) := hle
  replace hri : M 1209 = some (.inr (8, [.int re, .long rv, .int r0, .int r1])) := hri
  replace hla : M 1210 = some (.inr (8, [.int e, .long v, .int a0, .int b0])) := hla
  have tk0 := tok_ok f ha
  have h62 : am_V G m_Rd_goOn d 0 0 (fun r M1 nx1 => r = .inl none ∧ nx1 = nx ∧ cs f n M1 (c_go f n ((3, nm, mo, ar, (fe, fv, fa, fb)) :: (ro1, nm1, mo1, ar1, (ge, gv, ga, gb)) :: K, false, false, sy, -1, ou, pr, a, (le, lv, l0, l1), (re, rv, r0, r1), (e, v, a0, b0))) ∧ cs_fr M M1) 62 [(2, .ref ((tok f n a).2.2.2.2)), (1, .ref (2 * (K.length + 1) + 1008)), (0, .ref 1005)] [] M nx 0 0 := by
    refine v_gets (v := .ref 50) (am_Dk d_Rd_goOn (k := 30) rfl) s_Rd_235 (by decide +kernel) ?_
    refine v_aload_n (am_Dk d_Rd_goOn (k := 31) rfl) rfl ?_
    refine v_get (am_Dk d_Rd_goOn (k := 32) rfl) f_Rd_109 ht rfl ?_
    refine v_callU (rest := [.ref 50]) (As := []) (mc' := 0) (ms' := 0) (am_Dk d_Rd_goOn (k := 33) rfl) c_Rd_238 (Or.inr (by decide +kernel)) (t_jE_ordinal G (d := 0) (k := 41) (v := 3) (by omega) (en_oR 3 (by decide))) (by omega) (by omega) (by omega) (by simp [Value.category]) rfl (fun v1 M2 n3 h4 => ?_) (fun _ _ _ h4 => ?_)
    rotate_left
    · exact absurd h4.1 (by simp)
    obtain ⟨h4, e5, e6⟩ := h4
    replace e5 := e5.symm
    replace e6 := e6.symm
    subst e5
    subst e6
    cases h4
    show am_V G _ _ _ _ _ 72 [(2, .ref ((tok f n a).2.2.2.2)), (1, .ref (2 * (K.length + 1) + 1008)), (0, .ref 1005)] [.int 3, .ref 50] M nx 0 0
    refine v_tiald (v := .int 3) (am_Dk d_Rd_goOn (k := 34) rfl) (List.mem_of_getElem? (i := 0) rfl) (show ¬ (_ ∨ _) from by decide) (by decide) ?_
    refine v_tableIn (tgt := 146) (off := 73) (am_Dk d_Rd_goOn (k := 35) rfl) (by decide) (by decide) (by decide) (by decide) ?_
    refine v_aload_n (am_Dk d_Rd_goOn (k := 52) rfl) rfl ?_
    refine v_aload_n (am_Dk d_Rd_goOn (k := 53) rfl) rfl ?_
    refine v_get (am_Dk d_Rd_goOn (k := 54) rfl) f_Rd_112 ht rfl ?_
    refine v_iconst (v := 2) (am_Dk d_Rd_goOn (k := 55) rfl) (by decide) ?_
    refine v_aload_n (am_Dk d_Rd_goOn (k := 56) rfl) rfl ?_
    refine v_get9 (am_Dk d_Rd_goOn (k := 57) rfl) r_Rd_121 ht rfl ?_
    refine v_callV (rest := []) (As := [.ref nm, .int 2, .ref (2 * (K.length + 1) + 1009)]) (mc' := 0) (ms' := 0) (am_Dk d_Rd_goOn (k := 58) rfl) c_Rd_242 (Or.inl ⟨_, _, _, _, _, h5, cq_ok5⟩) (t_Rd_combine G (d := 3) (k := nm) (m := nI 2) (by omega) h5 (by omega) ⟨by omega, by omega, by omega, by omega⟩ hf hla hle hri) (by omega) (by omega) (by omega) (by simp [Value.category]) rfl (fun v7 M8 n9 h10 => ?_) (fun _ _ _ h10 => ?_)
    rotate_left
    · exact absurd h10.1 (by simp)
    obtain ⟨h10, e11, e12⟩ := h10
    replace e11 := e11.symm
    replace e12 := e12.symm
    subst e11
    subst e12
    cases h10
    rw [nI_1]
    show am_V G _ _ _ _ _ 159 [(2, .ref ((tok f n a).2.2.2.2)), (1, .ref (2 * (K.length + 1) + 1008)), (0, .ref 1005)] [] (am_up (am_up (am_up (am_up M 1005 (.inr (5, [.ref 1001, .ref 1003, .ref 1006, .ref 1007, .int (nI (K.length + 2)), .int 0, .int 0, .int (nI (sy + 1)), .int (-1), .ref (if nI 2 = 2 then nm else 0), .ref 1208, .ref 1209, .ref 1210]))) 1208 (.inr (8, [.int fe, .long fv, .int fa, .int fb]))) 1209 (.inr (8, [.int e, .long v, .int a0, .int b0]))) 1210 (.inr (8, [.int (cbn (nI 2) nm fe fv e v).1, .long (cbn (nI 2) nm fe fv e v).2, .int 0, .int 0]))) nx 0 0
    refine v_aload_n (am_Dk d_Rd_goOn (k := 59) rfl) rfl ?_
    refine v_aload_n (am_Dk d_Rd_goOn (k := 60) rfl) rfl ?_
    have m13 : (am_up (am_up (am_up (am_up M 1005 (.inr (5, [.ref 1001, .ref 1003, .ref 1006, .ref 1007, .int (nI (K.length + 2)), .int 0, .int 0, .int (nI (sy + 1)), .int (-1), .ref (if nI 2 = 2 then nm else 0), .ref 1208, .ref 1209, .ref 1210]))) 1208 (.inr (8, [.int fe, .long fv, .int fa, .int fb]))) 1209 (.inr (8, [.int e, .long v, .int a0, .int b0]))) 1210 (.inr (8, [.int (cbn (nI 2) nm fe fv e v).1, .long (cbn (nI 2) nm fe fv e v).2, .int 0, .int 0]))) (2 * (K.length + 1) + 1008) = some (.inr (7, [.ref 41, .ref nm, .int mo, .int pr, .int (nI ar), .ref (2 * (K.length + 1) + 1009)])) := (am_up_ne (show (2 * (K.length + 1) + 1008) ≠ 1210 from by omega)).trans ((am_up_ne (show (2 * (K.length + 1) + 1008) ≠ 1209 from by omega)).trans ((am_up_ne (show (2 * (K.length + 1) + 1008) ≠ 1208 from by omega)).trans ((am_up_ne (show (2 * (K.length + 1) + 1008) ≠ 1005 from by omega)).trans (ht))))
    refine v_get (am_Dk d_Rd_goOn (k := 61) rfl) f_Rd_112 m13 rfl ?_
    refine v_getK (i := nm) (v := .int (kn_inf nm)) (am_Dk d_Rd_goOn (k := 62) rfl) g_Rd_223 (Or.inl rfl) (kn_inf_k _ (by omega)) ?_
    have m14 : (am_up (am_up (am_up (am_up M 1005 (.inr (5, [.ref 1001, .ref 1003, .ref 1006, .ref 1007, .int (nI (K.length + 2)), .int 0, .int 0, .int (nI (sy + 1)), .int (-1), .ref (if nI 2 = 2 then nm else 0), .ref 1208, .ref 1209, .ref 1210]))) 1208 (.inr (8, [.int fe, .long fv, .int fa, .int fb]))) 1209 (.inr (8, [.int e, .long v, .int a0, .int b0]))) 1210 (.inr (8, [.int (cbn (nI 2) nm fe fv e v).1, .long (cbn (nI 2) nm fe fv e v).2, .int 0, .int 0]))) 1005 = some (.inr (5, [.ref 1001, .ref 1003, .ref 1006, .ref 1007, .int (nI (K.length + 2)), .int 0, .int 0, .int (nI (sy + 1)), .int (-1), .ref (if nI 2 = 2 then nm else 0), .ref 1208, .ref 1209, .ref 1210])) := (am_up_ne (show 1005 ≠ 1210 from by decide)).trans ((am_up_ne (show 1005 ≠ 1209 from by decide)).trans ((am_up_ne (show 1005 ≠ 1208 from by decide)).trans (am_up_eq _ _ _)))
    have m15 : (am_up (am_up (am_up (am_up M 1005 (.inr (5, [.ref 1001, .ref 1003, .ref 1006, .ref 1007, .int (nI (K.length + 2)), .int 0, .int 0, .int (nI (sy + 1)), .int (-1), .ref (if nI 2 = 2 then nm else 0), .ref 1208, .ref 1209, .ref 1210]))) 1208 (.inr (8, [.int fe, .long fv, .int fa, .int fb]))) 1209 (.inr (8, [.int e, .long v, .int a0, .int b0]))) 1210 (.inr (8, [.int (cbn (nI 2) nm fe fv e v).1, .long (cbn (nI 2) nm fe fv e v).2, .int 0, .int 0]))) 1007 = some (.inl (4, 100, .inr (.inr (.inr (.inr (ci_arr 100)))))) := (am_up_ne (show 1007 ≠ 1210 from by decide)).trans ((am_up_ne (show 1007 ≠ 1209 from by decide)).trans ((am_up_ne (show 1007 ≠ 1208 from by decide)).trans ((am_up_ne (show 1007 ≠ 1005 from by decide)).trans (h7))))
    have m16 : (am_up (am_up (am_up (am_up M 1005 (.inr (5, [.ref 1001, .ref 1003, .ref 1006, .ref 1007, .int (nI (K.length + 2)), .int 0, .int 0, .int (nI (sy + 1)), .int (-1), .ref (if nI 2 = 2 then nm else 0), .ref 1208, .ref 1209, .ref 1210]))) 1208 (.inr (8, [.int fe, .long fv, .int fa, .int fb]))) 1209 (.inr (8, [.int e, .long v, .int a0, .int b0]))) 1210 (.inr (8, [.int (cbn (nI 2) nm fe fv e v).1, .long (cbn (nI 2) nm fe fv e v).2, .int 0, .int 0]))) (2 * K.length + 1008) = some (.inr (7, [.ref (38 + ro1), .ref nm1, .int mo1, .int pr1, .int (nI ar1), .ref (2 * K.length + 1009)])) := (am_up_ne (show (2 * K.length + 1008) ≠ 1210 from by omega)).trans ((am_up_ne (show (2 * K.length + 1008) ≠ 1209 from by omega)).trans ((am_up_ne (show (2 * K.length + 1008) ≠ 1208 from by omega)).trans ((am_up_ne (show (2 * K.length + 1008) ≠ 1005 from by omega)).trans (ht1))))
    refine v_callV (rest := []) (As := [.int (kn_inf nm)]) (mc' := 0) (ms' := 0) (am_Dk d_Rd_goOn (k := 63) rfl) c_Rd_246 (Or.inl ⟨_, _, _, _, _, m14, cq_ok5⟩) (t_Rd_leave G (d := 1) (j := K.length) (dp := 0) (by omega) (by omega) m14 m15 m16) (by omega) (by omega) (by omega) (by simp [Value.category]) rfl (fun v17 M18 n19 h20 => ?_) (fun _ _ _ h20 => ?_)
    rotate_left
    · exact absurd h20.1 (by simp)
    obtain ⟨h20, e21, e22⟩ := h20
    replace e21 := e21.symm
    replace e22 := e22.symm
    subst e21
    subst e22
    cases h20
    rw [am_uu3 (a := 1005)]
    show am_V G _ _ _ _ _ 170 [(2, .ref ((tok f n a).2.2.2.2)), (1, .ref (2 * (K.length + 1) + 1008)), (0, .ref 1005)] [] (am_up (am_up (am_up (am_up (am_up M 1208 (.inr (8, [.int fe, .long fv, .int fa, .int fb]))) 1209 (.inr (8, [.int e, .long v, .int a0, .int b0]))) 1210 (.inr (8, [.int (cbn (nI 2) nm fe fv e v).1, .long (cbn (nI 2) nm fe fv e v).2, .int 0, .int 0]))) 1005 (.inr (5, [.ref 1001, .ref 1003, .ref 1006, .ref 1007, .int (nI (K.length + 1)), .int 0, .int 0, .int (nI (sy + 1)), .int (-1), .ref (if nI 2 = 2 then nm else 0), .ref 1208, .ref 1209, .ref 1210]))) (2 * K.length + 1008) (.inr (7, [.ref (38 + ro1), .ref nm1, .int mo1, .int (kn_inf nm), .int (nI ar1), .ref (2 * K.length + 1009)]))) nx 0 0
    refine v_goto (tgt := 200) (am_Dk d_Rd_goOn (k := 64) rfl) (by decide) ?_
    have hE : c_go f n ((3, nm, mo, ar, (fe, fv, fa, fb)) :: (ro1, nm1, mo1, ar1, (ge, gv, ga, gb)) :: K, false, false, sy, -1, ou, pr, a, (le, lv, l0, l1), (re, rv, r0, r1), (e, v, a0, b0)) = ((ro1, nm1, mo1, ar1, (ge, gv, ga, gb)) :: K, false, false, sy + 1, -1, if nI 2 = 2 then nm else 0, kn_inf nm, a, (fe, fv, fa, fb), (e, v, a0, b0), ((cbn (nI 2) nm fe fv e v).1, (cbn (nI 2) nm fe fv e v).2, 0, 0)) := by
      rw [c_go, if_neg he, if_neg (by decide), if_neg (by decide), if_pos rfl, c_cmb, c_lv]
      try rfl
    refine v_return (am_Dk d_Rd_goOn (k := 78) rfl) rfl (by omega) (by omega) ⟨rfl, rfl, ?_, fun i hi => (am_up_ne (show i ≠ (2 * K.length + 1008) from by omega)).trans ((am_up_ne (show i ≠ 1005 from by omega)).trans ((am_up_ne (show i ≠ 1210 from by omega)).trans ((am_up_ne (show i ≠ 1209 from by omega)).trans ((am_up_ne (show i ≠ 1208 from by omega)).trans (rfl)))))⟩
    rw [hE]
    exact ⟨(am_up_ne (show 1005 ≠ (2 * K.length + 1008) from by omega)).trans (am_up_eq _ _ _), ⟨_, _, _, (am_up_ne (show 1006 ≠ (2 * K.length + 1008) from by omega)).trans ((am_up_ne (show 1006 ≠ 1005 from by decide)).trans ((am_up_ne (show 1006 ≠ 1210 from by decide)).trans ((am_up_ne (show 1006 ≠ 1209 from by decide)).trans ((am_up_ne (show 1006 ≠ 1208 from by decide)).trans (h6))))), hnu⟩, (am_up_ne (show 1007 ≠ (2 * K.length + 1008) from by omega)).trans ((am_up_ne (show 1007 ≠ 1005 from by decide)).trans ((am_up_ne (show 1007 ≠ 1210 from by decide)).trans ((am_up_ne (show 1007 ≠ 1209 from by decide)).trans ((am_up_ne (show 1007 ≠ 1208 from by decide)).trans (h7))))), fun _ => am_up_eq _ _ _, ⟨⟨_, am_up_eq _ _ _⟩, (am_up_ne (show (2 * K.length + 1009) ≠ (2 * K.length + 1008) from by omega)).trans ((am_up_ne (show (2 * K.length + 1009) ≠ 1005 from by omega)).trans ((am_up_ne (show (2 * K.length + 1009) ≠ 1210 from by omega)).trans ((am_up_ne (show (2 * K.length + 1009) ≠ 1209 from by omega)).trans ((am_up_ne (show (2 * K.length + 1009) ≠ 1208 from by omega)).trans (hf1))))), cs_Kup hK (fun i z1 z2 => (am_up_ne (show i ≠ (2 * K.length + 1008) from by omega)).trans ((am_up_ne (show i ≠ 1005 from by omega)).trans ((am_up_ne (show i ≠ 1210 from by omega)).trans ((am_up_ne (show i ≠ 1209 from by omega)).trans ((am_up_ne (show i ≠ 1208 from by omega)).trans (rfl))))))⟩, cs_Xdn (cs_Xup hX (fun i (z1 : 2 * (K.length + 2) + 1008 ≤ i) z2 => (am_up_ne (show i ≠ (2 * K.length + 1008) from by omega)).trans ((am_up_ne (show i ≠ 1005 from by omega)).trans ((am_up_ne (show i ≠ 1210 from by omega)).trans ((am_up_ne (show i ≠ 1209 from by omega)).trans ((am_up_ne (show i ≠ 1208 from by omega)).trans (rfl))))))) ((am_up_ne (show (2 * (K.length + 1) + 1008) ≠ (2 * K.length + 1008) from by omega)).trans ((am_up_ne (show (2 * (K.length + 1) + 1008) ≠ 1005 from by omega)).trans ((am_up_ne (show (2 * (K.length + 1) + 1008) ≠ 1210 from by omega)).trans ((am_up_ne (show (2 * (K.length + 1) + 1008) ≠ 1209 from by omega)).trans ((am_up_ne (show (2 * (K.length + 1) + 1008) ≠ 1208 from by omega)).trans (ht)))))) ((am_up_ne (show (2 * (K.length + 1) + 1009) ≠ (2 * K.length + 1008) from by omega)).trans ((am_up_ne (show (2 * (K.length + 1) + 1009) ≠ 1005 from by omega)).trans ((am_up_ne (show (2 * (K.length + 1) + 1009) ≠ 1210 from by omega)).trans ((am_up_ne (show (2 * (K.length + 1) + 1009) ≠ 1209 from by omega)).trans ((am_up_ne (show (2 * (K.length + 1) + 1009) ≠ 1208 from by omega)).trans (hf)))))), (am_up_ne (show 1208 ≠ (2 * K.length + 1008) from by omega)).trans ((am_up_ne (show 1208 ≠ 1005 from by decide)).trans ((am_up_ne (show 1208 ≠ 1210 from by decide)).trans ((am_up_ne (show 1208 ≠ 1209 from by decide)).trans (am_up_eq _ _ _)))), (am_up_ne (show 1209 ≠ (2 * K.length + 1008) from by omega)).trans ((am_up_ne (show 1209 ≠ 1005 from by decide)).trans ((am_up_ne (show 1209 ≠ 1210 from by decide)).trans (am_up_eq _ _ _))), (am_up_ne (show 1210 ≠ (2 * K.length + 1008) from by omega)).trans ((am_up_ne (show 1210 ≠ 1005 from by decide)).trans (am_up_eq _ _ _))⟩
  refine v_aload_n (am_Dk d_Rd_goOn (k := 0) rfl) rfl ?_
  refine v_callV (rest := []) (As := []) (mc' := 0) (ms' := 0) (am_Dk d_Rd_goOn (k := 1) rfl) c_Rd_127 (Or.inl ⟨_, _, _, _, _, h5, cq_ok5⟩) (t_Rd_innermost G (d := 0) (j := K.length + 1) (dp := 0) (by omega) (by omega) h5 h7) (by omega) (by omega) (by omega) (by simp [Value.category]) rfl (fun v1 M2 n3 h4 => ?_) (fun _ _ _ h4 => ?_)
  rotate_left
  · exact absurd h4.1 (by simp)
  obtain ⟨h4, e5, e6⟩ := h4
  replace e5 := e5.symm
  replace e6 := e6.symm
  subst e5
  subst e6
  cases h4
  show am_V G _ _ _ _ _ 4 [(0, .ref 1005)] [.ref (2 * (K.length + 1) + 1008)] M nx 0 0
  refine v_astore_n (L1 := [(1, .ref (2 * (K.length + 1) + 1008)), (0, .ref 1005)]) (am_Dk d_Rd_goOn (k := 2) rfl) (by decide) rfl ?_
  refine v_aload_n (am_Dk d_Rd_goOn (k := 3) rfl) rfl ?_
  refine v_get (am_Dk d_Rd_goOn (k := 4) rfl) f_Rd_24 h5 rfl ?_
  refine v_get (am_Dk d_Rd_goOn (k := 5) rfl) f_Rd_200 h6 rfl ?_
  refine v_astore_n (L1 := [(2, .ref ((tok f n a).2.2.2.2)), (1, .ref (2 * (K.length + 1) + 1008)), (0, .ref 1005)]) (am_Dk d_Rd_goOn (k := 6) rfl) (by decide) rfl ?_
  refine v_aload_n (am_Dk d_Rd_goOn (k := 7) rfl) rfl ?_
  refine v_getK (i := (tok f n a).2.2.2.2) (v := .int (kn_inf ((tok f n a).2.2.2.2))) (am_Dk d_Rd_goOn (k := 8) rfl) g_Rd_223 (Or.inl rfl) (kn_inf_k _ (by omega)) ?_
  refine v_if_le (tgt := 62) (am_Dk d_Rd_goOn (k := 9) rfl) (by decide) (fun c7 => ?_) (fun c7 => ?_)
  · exact h62
  · have p1 := Int32.not_le.mp c7
    refine v_aload_n (am_Dk d_Rd_goOn (k := 10) rfl) rfl ?_
    refine v_getK (i := (tok f n a).2.2.2.2) (v := .int (kn_inf ((tok f n a).2.2.2.2))) (am_Dk d_Rd_goOn (k := 11) rfl) g_Rd_223 (Or.inl rfl) (kn_inf_k _ (by omega)) ?_
    refine v_aload_n (am_Dk d_Rd_goOn (k := 12) rfl) rfl ?_
    refine v_get (am_Dk d_Rd_goOn (k := 13) rfl) f_Rd_115 ht rfl ?_
    refine v_icmp_gt (tgt := 62) (am_Dk d_Rd_goOn (k := 14) rfl) (by decide) (fun c8 => ?_) (fun c8 => ?_)
    · exact h62
    · have p2 := Int32.not_lt.mp c8
      refine v_aload_n (am_Dk d_Rd_goOn (k := 15) rfl) rfl ?_
      refine v_get (am_Dk d_Rd_goOn (k := 16) rfl) f_Rd_131 ht rfl ?_
      refine v_aload_n (am_Dk d_Rd_goOn (k := 17) rfl) rfl ?_
      refine v_getK (i := (tok f n a).2.2.2.2) (v := .int (kn_ml ((tok f n a).2.2.2.2))) (am_Dk d_Rd_goOn (k := 18) rfl) g_Rd_226 (Or.inl rfl) (kn_ml_k _ (by omega)) ?_
      refine v_icmp_gt (tgt := 62) (am_Dk d_Rd_goOn (k := 19) rfl) (by decide) (fun c9 => ?_) (fun c9 => ?_)
      · exact h62
      · exact absurd ⟨p1, p2, Int32.not_lt.mp c9⟩ he
set_option maxRecDepth 20000 in
theorem t_Rd_goOn4 (G : am_G) {d nx : Nat} (hd : 8 ≤ d) {M : am_M} {f : Nat → Int32} {n : Nat} (h1 : M 1001 = some (.inr (1, [.ref 1002, .int (nI n)]))) (h2 : M 1002 = some (.inl (0, 4096, .inl f))) (hn : n ≤ 4096) {K : List Frm} {nm ar sy ou a : Nat} {mo pr fa fb fe l0 l1 le r0 r1 re a0 b0 e : Int32} {fv lv rv v : Int64} {ro1 nm1 ar1 : Nat} {mo1 ge ga gb : Int32} {gv : Int64} (hl : K.length + 1 < 100) (hnm : nm < 26) (ha : a ≤ n) (he : ¬ (0 < kn_inf (tok f n a).2.2.2.2 ∧ kn_inf (tok f n a).2.2.2.2 ≤ mo ∧ pr ≤ kn_ml (tok f n a).2.2.2.2)) (har : ar < 100) (hcs : cs f n M ((4, nm, mo, ar, (fe, fv, fa, fb)) :: (ro1, nm1, mo1, ar1, (ge, gv, ga, gb)) :: K, false, false, sy, -1, ou, pr, a, (le, lv, l0, l1), (re, rv, r0, r1), (e, v, a0, b0))) : am_Tr G m_Rd_goOn d 0 0 [.ref 1005] M nx (fun r M1 nx1 => r = .inl none ∧ nx1 = nx ∧ cs f n M1 (c_go f n ((4, nm, mo, ar, (fe, fv, fa, fb)) :: (ro1, nm1, mo1, ar1, (ge, gv, ga, gb)) :: K, false, false, sy, -1, ou, pr, a, (le, lv, l0, l1), (re, rv, r0, r1), (e, v, a0, b0))) ∧ cs_fr M M1) := by
  refine am_TrOf (by decide) (Nat.le_of_ble_eq_true rfl) ?_
  show am_V G _ _ _ _ _ 0 [(0, .ref 1005)] [] M nx 0 0
  obtain ⟨h5, ⟨nu, nf, nt, h6, hnu⟩, h7, qT, ⟨⟨pr0, ht⟩, hf, ⟨pr1, ht1⟩, hf1, hK⟩, hX, hle, hri, hla⟩ := hcs
  replace h5 : M 1005 = some (.inr (5, [.ref 1001, .ref 1003, .ref 1006, .ref 1007, .int (nI (K.length + 2)), .int 0, .int 0, .int (nI sy), .int (-1), .ref ou, .ref 1208, .ref 1209, .ref 1210])) := h5
  clear ht
  have ht := qT rfl
  replace ht : M (2 * (K.length + 1) + 1008) = some (.inr (7, [.ref 42, .ref nm, .int mo, .int pr, .int (nI ar), .ref (2 * (K.length + 1) + 1009)])) := ht
  replace hf : M (2 * (K.length + 1) + 1009) = some (.inr (8, [.int fe, .long fv, .int fa, .int fb])) := hf
  replace ht1 : M (2 * K.length + 1008) = some (.inr (7, [.ref (38 + ro1), .ref nm1, .int mo1, .int pr1, .int (nI ar1), .ref (2 * K.length + 1009)])) := ht1
  replace hf1 : M (2 * K.length + 1009) = some (.inr (8, [.int ge, .long gv, .int ga, .int gb])) := hf1
  replace hle : M 1208 = some (.inr (8, [.int le, .long lv, .int l0, .int l1])) := hle
  replace hri : M 1209 = some (.inr (8, [.int re, .long rv, .int r0, .int r1])) := hri
  replace hla : M 1210 = some (.inr (8, [.int e, .long v, .int a0, .int b0])) := hla
  have tk0 := tok_ok f ha
  have h62 : am_V G m_Rd_goOn d 0 0 (fun r M1 nx1 => r = .inl none ∧ nx1 = nx ∧ cs f n M1 (c_go f n ((4, nm, mo, ar, (fe, fv, fa, fb)) :: (ro1, nm1, mo1, ar1, (ge, gv, ga, gb)) :: K, false, false, sy, -1, ou, pr, a, (le, lv, l0, l1), (re, rv, r0, r1), (e, v, a0, b0))) ∧ cs_fr M M1) 62 [(2, .ref ((tok f n a).2.2.2.2)), (1, .ref (2 * (K.length + 1) + 1008)), (0, .ref 1005)] [] M nx 0 0 := by
    refine v_gets (v := .ref 50) (am_Dk d_Rd_goOn (k := 30) rfl) s_Rd_235 (by decide +kernel) ?_
    refine v_aload_n (am_Dk d_Rd_goOn (k := 31) rfl) rfl ?_
    refine v_get (am_Dk d_Rd_goOn (k := 32) rfl) f_Rd_109 ht rfl ?_
    refine v_callU (rest := [.ref 50]) (As := []) (mc' := 0) (ms' := 0) (am_Dk d_Rd_goOn (k := 33) rfl) c_Rd_238 (Or.inr (by decide +kernel)) (t_jE_ordinal G (d := 0) (k := 42) (v := 4) (by omega) (en_oR 4 (by decide))) (by omega) (by omega) (by omega) (by simp [Value.category]) rfl (fun v1 M2 n3 h4 => ?_) (fun _ _ _ h4 => ?_)
    rotate_left
    · exact absurd h4.1 (by simp)
    obtain ⟨h4, e5, e6⟩ := h4
    replace e5 := e5.symm
    replace e6 := e6.symm
    subst e5
    subst e6
    cases h4
    show am_V G _ _ _ _ _ 72 [(2, .ref ((tok f n a).2.2.2.2)), (1, .ref (2 * (K.length + 1) + 1008)), (0, .ref 1005)] [.int 4, .ref 50] M nx 0 0
    refine v_tiald (v := .int 4) (am_Dk d_Rd_goOn (k := 34) rfl) (List.mem_of_getElem? (i := 0) rfl) (show ¬ (_ ∨ _) from by decide) (by decide) ?_
    refine v_tableIn (tgt := 173) (off := 100) (am_Dk d_Rd_goOn (k := 35) rfl) (by decide) (by decide) (by decide) (by decide) ?_
    refine v_aload_n (am_Dk d_Rd_goOn (k := 65) rfl) rfl ?_
    refine v_aload_n (am_Dk d_Rd_goOn (k := 66) rfl) rfl ?_
    refine v_callV (rest := []) (As := [.ref (2 * (K.length + 1) + 1008)]) (mc' := 0) (ms' := 0) (am_Dk d_Rd_goOn (k := 67) rfl) c_Rd_249 (Or.inl ⟨_, _, _, _, _, h5, cq_ok5⟩) (t_Rd_endArgument G (d := 7) (by omega) h1 h2 hn (by omega) hnm (by omega) (by omega) (show cs f n M ((4, nm, mo, ar, (fe, fv, fa, fb)) :: (ro1, nm1, mo1, ar1, (ge, gv, ga, gb)) :: K, false, false, sy, -1, ou, pr, a, (le, lv, l0, l1), (re, rv, r0, r1), (e, v, a0, b0)) from ⟨h5, ⟨_, _, _, h6, hnu⟩, h7, fun _ => ht, ⟨⟨_, ht⟩, hf, ⟨_, ht1⟩, hf1, cs_Kup hK (fun i z1 z2 => rfl)⟩, cs_Xup hX (fun i (z1 : 2 * (K.length + 2) + 1008 ≤ i) z2 => rfl), hle, hri, hla⟩)) (by omega) (by omega) (by omega) (by simp [Value.category]) rfl (fun v7 M8 n9 h10 => ?_) (fun _ _ _ h10 => ?_)
    rotate_left
    · exact absurd h10.1 (by simp)
    obtain ⟨h10, e13, hc11, hf12⟩ := h10
    replace e13 := e13.symm
    subst e13
    cases h10
    show am_V G _ _ _ _ _ 178 [(2, .ref ((tok f n a).2.2.2.2)), (1, .ref (2 * (K.length + 1) + 1008)), (0, .ref 1005)] [] M8 nx 0 0
    refine v_goto (tgt := 200) (am_Dk d_Rd_goOn (k := 68) rfl) (by decide) ?_
    have hE : c_go f n ((4, nm, mo, ar, (fe, fv, fa, fb)) :: (ro1, nm1, mo1, ar1, (ge, gv, ga, gb)) :: K, false, false, sy, -1, ou, pr, a, (le, lv, l0, l1), (re, rv, r0, r1), (e, v, a0, b0)) = c_eA f n ((4, nm, mo, ar, (fe, fv, fa, fb)) :: (ro1, nm1, mo1, ar1, (ge, gv, ga, gb)) :: K, false, false, sy, -1, ou, pr, a, (le, lv, l0, l1), (re, rv, r0, r1), (e, v, a0, b0)) := by
      rw [c_go, if_neg he, if_neg (by decide), if_neg (by decide), if_neg (by decide), if_pos rfl]
    refine v_return (am_Dk d_Rd_goOn (k := 78) rfl) rfl (by omega) (by omega) ⟨rfl, rfl, ?_, fun i hi => (hf12 i hi).trans (rfl)⟩
    rw [hE]
    exact hc11
  refine v_aload_n (am_Dk d_Rd_goOn (k := 0) rfl) rfl ?_
  refine v_callV (rest := []) (As := []) (mc' := 0) (ms' := 0) (am_Dk d_Rd_goOn (k := 1) rfl) c_Rd_127 (Or.inl ⟨_, _, _, _, _, h5, cq_ok5⟩) (t_Rd_innermost G (d := 0) (j := K.length + 1) (dp := 0) (by omega) (by omega) h5 h7) (by omega) (by omega) (by omega) (by simp [Value.category]) rfl (fun v1 M2 n3 h4 => ?_) (fun _ _ _ h4 => ?_)
  rotate_left
  · exact absurd h4.1 (by simp)
  obtain ⟨h4, e5, e6⟩ := h4
  replace e5 := e5.symm
  replace e6 := e6.symm
  subst e5
  subst e6
  cases h4
  show am_V G _ _ _ _ _ 4 [(0, .ref 1005)] [.ref (2 * (K.length + 1) + 1008)] M nx 0 0
  refine v_astore_n (L1 := [(1, .ref (2 * (K.length + 1) + 1008)), (0, .ref 1005)]) (am_Dk d_Rd_goOn (k := 2) rfl) (by decide) rfl ?_
  refine v_aload_n (am_Dk d_Rd_goOn (k := 3) rfl) rfl ?_
  refine v_get (am_Dk d_Rd_goOn (k := 4) rfl) f_Rd_24 h5 rfl ?_
  refine v_get (am_Dk d_Rd_goOn (k := 5) rfl) f_Rd_200 h6 rfl ?_
  refine v_astore_n (L1 := [(2, .ref ((tok f n a).2.2.2.2)), (1, .ref (2 * (K.length + 1) + 1008)), (0, .ref 1005)]) (am_Dk d_Rd_goOn (k := 6) rfl) (by decide) rfl ?_
  refine v_aload_n (am_Dk d_Rd_goOn (k := 7) rfl) rfl ?_
  refine v_getK (i := (tok f n a).2.2.2.2) (v := .int (kn_inf ((tok f n a).2.2.2.2))) (am_Dk d_Rd_goOn (k := 8) rfl) g_Rd_223 (Or.inl rfl) (kn_inf_k _ (by omega)) ?_
  refine v_if_le (tgt := 62) (am_Dk d_Rd_goOn (k := 9) rfl) (by decide) (fun c7 => ?_) (fun c7 => ?_)
  · exact h62
  · have p1 := Int32.not_le.mp c7
    refine v_aload_n (am_Dk d_Rd_goOn (k := 10) rfl) rfl ?_
    refine v_getK (i := (tok f n a).2.2.2.2) (v := .int (kn_inf ((tok f n a).2.2.2.2))) (am_Dk d_Rd_goOn (k := 11) rfl) g_Rd_223 (Or.inl rfl) (kn_inf_k _ (by omega)) ?_
    refine v_aload_n (am_Dk d_Rd_goOn (k := 12) rfl) rfl ?_
    refine v_get (am_Dk d_Rd_goOn (k := 13) rfl) f_Rd_115 ht rfl ?_
    refine v_icmp_gt (tgt := 62) (am_Dk d_Rd_goOn (k := 14) rfl) (by decide) (fun c8 => ?_) (fun c8 => ?_)
    · exact h62
    · have p2 := Int32.not_lt.mp c8
      refine v_aload_n (am_Dk d_Rd_goOn (k := 15) rfl) rfl ?_
      refine v_get (am_Dk d_Rd_goOn (k := 16) rfl) f_Rd_131 ht rfl ?_
      refine v_aload_n (am_Dk d_Rd_goOn (k := 17) rfl) rfl ?_
      refine v_getK (i := (tok f n a).2.2.2.2) (v := .int (kn_ml ((tok f n a).2.2.2.2))) (am_Dk d_Rd_goOn (k := 18) rfl) g_Rd_226 (Or.inl rfl) (kn_ml_k _ (by omega)) ?_
      refine v_icmp_gt (tgt := 62) (am_Dk d_Rd_goOn (k := 19) rfl) (by decide) (fun c9 => ?_) (fun c9 => ?_)
      · exact h62
      · exact absurd ⟨p1, p2, Int32.not_lt.mp c9⟩ he
set_option maxRecDepth 20000 in
theorem t_Rd_goOn5 (G : am_G) {d nx : Nat} (hd : 9 ≤ d) {M : am_M} {f : Nat → Int32} {n : Nat} (h1 : M 1001 = some (.inr (1, [.ref 1002, .int (nI n)]))) (h2 : M 1002 = some (.inl (0, 4096, .inl f))) (hn : n ≤ 4096) {K : List Frm} {nm ar sy ou a : Nat} {mo pr fa fb fe l0 l1 le r0 r1 re a0 b0 e : Int32} {fv lv rv v : Int64} {ro1 nm1 ar1 : Nat} {mo1 ge ga gb : Int32} {gv : Int64} (hl : K.length + 1 < 100) (hnm : nm < 26) (ha : a ≤ n) (he : ¬ (0 < kn_inf (tok f n a).2.2.2.2 ∧ kn_inf (tok f n a).2.2.2.2 ≤ mo ∧ pr ≤ kn_ml (tok f n a).2.2.2.2)) (hcs : cs f n M ((5, nm, mo, ar, (fe, fv, fa, fb)) :: (ro1, nm1, mo1, ar1, (ge, gv, ga, gb)) :: K, false, false, sy, -1, ou, pr, a, (le, lv, l0, l1), (re, rv, r0, r1), (e, v, a0, b0))) : am_Tr G m_Rd_goOn d 0 0 [.ref 1005] M nx (fun r M1 nx1 => r = .inl none ∧ nx1 = nx ∧ cs f n M1 (c_go f n ((5, nm, mo, ar, (fe, fv, fa, fb)) :: (ro1, nm1, mo1, ar1, (ge, gv, ga, gb)) :: K, false, false, sy, -1, ou, pr, a, (le, lv, l0, l1), (re, rv, r0, r1), (e, v, a0, b0))) ∧ cs_fr M M1) := by
  refine am_TrOf (by decide) (Nat.le_of_ble_eq_true rfl) ?_
  show am_V G _ _ _ _ _ 0 [(0, .ref 1005)] [] M nx 0 0
  obtain ⟨h5, ⟨nu, nf, nt, h6, hnu⟩, h7, qT, ⟨⟨pr0, ht⟩, hf, ⟨pr1, ht1⟩, hf1, hK⟩, hX, hle, hri, hla⟩ := hcs
  replace h5 : M 1005 = some (.inr (5, [.ref 1001, .ref 1003, .ref 1006, .ref 1007, .int (nI (K.length + 2)), .int 0, .int 0, .int (nI sy), .int (-1), .ref ou, .ref 1208, .ref 1209, .ref 1210])) := h5
  clear ht
  have ht := qT rfl
  replace ht : M (2 * (K.length + 1) + 1008) = some (.inr (7, [.ref 43, .ref nm, .int mo, .int pr, .int (nI ar), .ref (2 * (K.length + 1) + 1009)])) := ht
  replace hf : M (2 * (K.length + 1) + 1009) = some (.inr (8, [.int fe, .long fv, .int fa, .int fb])) := hf
  replace ht1 : M (2 * K.length + 1008) = some (.inr (7, [.ref (38 + ro1), .ref nm1, .int mo1, .int pr1, .int (nI ar1), .ref (2 * K.length + 1009)])) := ht1
  replace hf1 : M (2 * K.length + 1009) = some (.inr (8, [.int ge, .long gv, .int ga, .int gb])) := hf1
  replace hle : M 1208 = some (.inr (8, [.int le, .long lv, .int l0, .int l1])) := hle
  replace hri : M 1209 = some (.inr (8, [.int re, .long rv, .int r0, .int r1])) := hri
  replace hla : M 1210 = some (.inr (8, [.int e, .long v, .int a0, .int b0])) := hla
  have tk0 := tok_ok f ha
  have h62 : am_V G m_Rd_goOn d 0 0 (fun r M1 nx1 => r = .inl none ∧ nx1 = nx ∧ cs f n M1 (c_go f n ((5, nm, mo, ar, (fe, fv, fa, fb)) :: (ro1, nm1, mo1, ar1, (ge, gv, ga, gb)) :: K, false, false, sy, -1, ou, pr, a, (le, lv, l0, l1), (re, rv, r0, r1), (e, v, a0, b0))) ∧ cs_fr M M1) 62 [(2, .ref ((tok f n a).2.2.2.2)), (1, .ref (2 * (K.length + 1) + 1008)), (0, .ref 1005)] [] M nx 0 0 := by
    refine v_gets (v := .ref 50) (am_Dk d_Rd_goOn (k := 30) rfl) s_Rd_235 (by decide +kernel) ?_
    refine v_aload_n (am_Dk d_Rd_goOn (k := 31) rfl) rfl ?_
    refine v_get (am_Dk d_Rd_goOn (k := 32) rfl) f_Rd_109 ht rfl ?_
    refine v_callU (rest := [.ref 50]) (As := []) (mc' := 0) (ms' := 0) (am_Dk d_Rd_goOn (k := 33) rfl) c_Rd_238 (Or.inr (by decide +kernel)) (t_jE_ordinal G (d := 0) (k := 43) (v := 5) (by omega) (en_oR 5 (by decide))) (by omega) (by omega) (by omega) (by simp [Value.category]) rfl (fun v1 M2 n3 h4 => ?_) (fun _ _ _ h4 => ?_)
    rotate_left
    · exact absurd h4.1 (by simp)
    obtain ⟨h4, e5, e6⟩ := h4
    replace e5 := e5.symm
    replace e6 := e6.symm
    subst e5
    subst e6
    cases h4
    show am_V G _ _ _ _ _ 72 [(2, .ref ((tok f n a).2.2.2.2)), (1, .ref (2 * (K.length + 1) + 1008)), (0, .ref 1005)] [.int 5, .ref 50] M nx 0 0
    refine v_tiald (v := .int 5) (am_Dk d_Rd_goOn (k := 34) rfl) (List.mem_of_getElem? (i := 0) rfl) (show ¬ (_ ∨ _) from by decide) (by decide) ?_
    refine v_tableIn (tgt := 181) (off := 108) (am_Dk d_Rd_goOn (k := 35) rfl) (by decide) (by decide) (by decide) (by decide) ?_
    refine v_aload_n (am_Dk d_Rd_goOn (k := 69) rfl) rfl ?_
    refine v_aload_n (am_Dk d_Rd_goOn (k := 70) rfl) rfl ?_
    refine v_callV (rest := []) (As := [.ref (2 * (K.length + 1) + 1008)]) (mc' := 0) (ms' := 0) (am_Dk d_Rd_goOn (k := 71) rfl) c_Rd_253 (Or.inl ⟨_, _, _, _, _, h5, cq_ok5⟩) (t_Rd_endElement G (d := 8) (by omega) h1 h2 hn (by omega) hnm (by omega) (show cs f n M ((5, nm, mo, ar, (fe, fv, fa, fb)) :: (ro1, nm1, mo1, ar1, (ge, gv, ga, gb)) :: K, false, false, sy, -1, ou, pr, a, (le, lv, l0, l1), (re, rv, r0, r1), (e, v, a0, b0)) from ⟨h5, ⟨_, _, _, h6, hnu⟩, h7, fun _ => ht, ⟨⟨_, ht⟩, hf, ⟨_, ht1⟩, hf1, cs_Kup hK (fun i z1 z2 => rfl)⟩, cs_Xup hX (fun i (z1 : 2 * (K.length + 2) + 1008 ≤ i) z2 => rfl), hle, hri, hla⟩)) (by omega) (by omega) (by omega) (by simp [Value.category]) rfl (fun v7 M8 n9 h10 => ?_) (fun _ _ _ h10 => ?_)
    rotate_left
    · exact absurd h10.1 (by simp)
    obtain ⟨h10, e13, hc11, hf12⟩ := h10
    replace e13 := e13.symm
    subst e13
    cases h10
    show am_V G _ _ _ _ _ 186 [(2, .ref ((tok f n a).2.2.2.2)), (1, .ref (2 * (K.length + 1) + 1008)), (0, .ref 1005)] [] M8 nx 0 0
    refine v_goto (tgt := 200) (am_Dk d_Rd_goOn (k := 72) rfl) (by decide) ?_
    have hE : c_go f n ((5, nm, mo, ar, (fe, fv, fa, fb)) :: (ro1, nm1, mo1, ar1, (ge, gv, ga, gb)) :: K, false, false, sy, -1, ou, pr, a, (le, lv, l0, l1), (re, rv, r0, r1), (e, v, a0, b0)) = c_eE f n ((5, nm, mo, ar, (fe, fv, fa, fb)) :: (ro1, nm1, mo1, ar1, (ge, gv, ga, gb)) :: K, false, false, sy, -1, ou, pr, a, (le, lv, l0, l1), (re, rv, r0, r1), (e, v, a0, b0)) := by
      rw [c_go, if_neg he, if_neg (by decide), if_neg (by decide), if_neg (by decide), if_neg (by decide), if_pos rfl]
    refine v_return (am_Dk d_Rd_goOn (k := 78) rfl) rfl (by omega) (by omega) ⟨rfl, rfl, ?_, fun i hi => (hf12 i hi).trans (rfl)⟩
    rw [hE]
    exact hc11
  refine v_aload_n (am_Dk d_Rd_goOn (k := 0) rfl) rfl ?_
  refine v_callV (rest := []) (As := []) (mc' := 0) (ms' := 0) (am_Dk d_Rd_goOn (k := 1) rfl) c_Rd_127 (Or.inl ⟨_, _, _, _, _, h5, cq_ok5⟩) (t_Rd_innermost G (d := 0) (j := K.length + 1) (dp := 0) (by omega) (by omega) h5 h7) (by omega) (by omega) (by omega) (by simp [Value.category]) rfl (fun v1 M2 n3 h4 => ?_) (fun _ _ _ h4 => ?_)
  rotate_left
  · exact absurd h4.1 (by simp)
  obtain ⟨h4, e5, e6⟩ := h4
  replace e5 := e5.symm
  replace e6 := e6.symm
  subst e5
  subst e6
  cases h4
  show am_V G _ _ _ _ _ 4 [(0, .ref 1005)] [.ref (2 * (K.length + 1) + 1008)] M nx 0 0
  refine v_astore_n (L1 := [(1, .ref (2 * (K.length + 1) + 1008)), (0, .ref 1005)]) (am_Dk d_Rd_goOn (k := 2) rfl) (by decide) rfl ?_
  refine v_aload_n (am_Dk d_Rd_goOn (k := 3) rfl) rfl ?_
  refine v_get (am_Dk d_Rd_goOn (k := 4) rfl) f_Rd_24 h5 rfl ?_
  refine v_get (am_Dk d_Rd_goOn (k := 5) rfl) f_Rd_200 h6 rfl ?_
  refine v_astore_n (L1 := [(2, .ref ((tok f n a).2.2.2.2)), (1, .ref (2 * (K.length + 1) + 1008)), (0, .ref 1005)]) (am_Dk d_Rd_goOn (k := 6) rfl) (by decide) rfl ?_
  refine v_aload_n (am_Dk d_Rd_goOn (k := 7) rfl) rfl ?_
  refine v_getK (i := (tok f n a).2.2.2.2) (v := .int (kn_inf ((tok f n a).2.2.2.2))) (am_Dk d_Rd_goOn (k := 8) rfl) g_Rd_223 (Or.inl rfl) (kn_inf_k _ (by omega)) ?_
  refine v_if_le (tgt := 62) (am_Dk d_Rd_goOn (k := 9) rfl) (by decide) (fun c7 => ?_) (fun c7 => ?_)
  · exact h62
  · have p1 := Int32.not_le.mp c7
    refine v_aload_n (am_Dk d_Rd_goOn (k := 10) rfl) rfl ?_
    refine v_getK (i := (tok f n a).2.2.2.2) (v := .int (kn_inf ((tok f n a).2.2.2.2))) (am_Dk d_Rd_goOn (k := 11) rfl) g_Rd_223 (Or.inl rfl) (kn_inf_k _ (by omega)) ?_
    refine v_aload_n (am_Dk d_Rd_goOn (k := 12) rfl) rfl ?_
    refine v_get (am_Dk d_Rd_goOn (k := 13) rfl) f_Rd_115 ht rfl ?_
    refine v_icmp_gt (tgt := 62) (am_Dk d_Rd_goOn (k := 14) rfl) (by decide) (fun c8 => ?_) (fun c8 => ?_)
    · exact h62
    · have p2 := Int32.not_lt.mp c8
      refine v_aload_n (am_Dk d_Rd_goOn (k := 15) rfl) rfl ?_
      refine v_get (am_Dk d_Rd_goOn (k := 16) rfl) f_Rd_131 ht rfl ?_
      refine v_aload_n (am_Dk d_Rd_goOn (k := 17) rfl) rfl ?_
      refine v_getK (i := (tok f n a).2.2.2.2) (v := .int (kn_ml ((tok f n a).2.2.2.2))) (am_Dk d_Rd_goOn (k := 18) rfl) g_Rd_226 (Or.inl rfl) (kn_ml_k _ (by omega)) ?_
      refine v_icmp_gt (tgt := 62) (am_Dk d_Rd_goOn (k := 19) rfl) (by decide) (fun c9 => ?_) (fun c9 => ?_)
      · exact h62
      · exact absurd ⟨p1, p2, Int32.not_lt.mp c9⟩ he
set_option maxRecDepth 20000 in
theorem t_Rd_goOn6 (G : am_G) {d nx : Nat} (hd : 8 ≤ d) {M : am_M} {f : Nat → Int32} {n : Nat} (h1 : M 1001 = some (.inr (1, [.ref 1002, .int (nI n)]))) (h2 : M 1002 = some (.inl (0, 4096, .inl f))) (hn : n ≤ 4096) {K : List Frm} {nm ar sy ou a : Nat} {mo pr fa fb fe l0 l1 le r0 r1 re a0 b0 e : Int32} {fv lv rv v : Int64} {ro1 nm1 ar1 : Nat} {mo1 ge ga gb : Int32} {gv : Int64} (hl : K.length + 1 < 100) (hnm : nm < 26) (ha : a ≤ n) (he : ¬ (0 < kn_inf (tok f n a).2.2.2.2 ∧ kn_inf (tok f n a).2.2.2.2 ≤ mo ∧ pr ≤ kn_ml (tok f n a).2.2.2.2)) (hcs : cs f n M ((6, nm, mo, ar, (fe, fv, fa, fb)) :: (ro1, nm1, mo1, ar1, (ge, gv, ga, gb)) :: K, false, false, sy, -1, ou, pr, a, (le, lv, l0, l1), (re, rv, r0, r1), (e, v, a0, b0))) : am_Tr G m_Rd_goOn d 0 0 [.ref 1005] M nx (fun r M1 nx1 => r = .inl none ∧ nx1 = nx ∧ cs f n M1 (c_go f n ((6, nm, mo, ar, (fe, fv, fa, fb)) :: (ro1, nm1, mo1, ar1, (ge, gv, ga, gb)) :: K, false, false, sy, -1, ou, pr, a, (le, lv, l0, l1), (re, rv, r0, r1), (e, v, a0, b0))) ∧ cs_fr M M1) := by
  refine am_TrOf (by decide) (Nat.le_of_ble_eq_true rfl) ?_
  show am_V G _ _ _ _ _ 0 [(0, .ref 1005)] [] M nx 0 0
  obtain ⟨h5, ⟨nu, nf, nt, h6, hnu⟩, h7, qT, ⟨⟨pr0, ht⟩, hf, ⟨pr1, ht1⟩, hf1, hK⟩, hX, hle, hri, hla⟩ := hcs
  replace h5 : M 1005 = some (.inr (5, [.ref 1001, .ref 1003, .ref 1006, .ref 1007, .int (nI (K.length + 2)), .int 0, .int 0, .int (nI sy), .int (-1), .ref ou, .ref 1208, .ref 1209, .ref 1210])) := h5
  clear ht
  have ht := qT rfl
  replace ht : M (2 * (K.length + 1) + 1008) = some (.inr (7, [.ref 44, .ref nm, .int mo, .int pr, .int (nI ar), .ref (2 * (K.length + 1) + 1009)])) := ht
  replace hf : M (2 * (K.length + 1) + 1009) = some (.inr (8, [.int fe, .long fv, .int fa, .int fb])) := hf
  replace ht1 : M (2 * K.length + 1008) = some (.inr (7, [.ref (38 + ro1), .ref nm1, .int mo1, .int pr1, .int (nI ar1), .ref (2 * K.length + 1009)])) := ht1
  replace hf1 : M (2 * K.length + 1009) = some (.inr (8, [.int ge, .long gv, .int ga, .int gb])) := hf1
  replace hle : M 1208 = some (.inr (8, [.int le, .long lv, .int l0, .int l1])) := hle
  replace hri : M 1209 = some (.inr (8, [.int re, .long rv, .int r0, .int r1])) := hri
  replace hla : M 1210 = some (.inr (8, [.int e, .long v, .int a0, .int b0])) := hla
  have tk0 := tok_ok f ha
  have h62 : am_V G m_Rd_goOn d 0 0 (fun r M1 nx1 => r = .inl none ∧ nx1 = nx ∧ cs f n M1 (c_go f n ((6, nm, mo, ar, (fe, fv, fa, fb)) :: (ro1, nm1, mo1, ar1, (ge, gv, ga, gb)) :: K, false, false, sy, -1, ou, pr, a, (le, lv, l0, l1), (re, rv, r0, r1), (e, v, a0, b0))) ∧ cs_fr M M1) 62 [(2, .ref ((tok f n a).2.2.2.2)), (1, .ref (2 * (K.length + 1) + 1008)), (0, .ref 1005)] [] M nx 0 0 := by
    refine v_gets (v := .ref 50) (am_Dk d_Rd_goOn (k := 30) rfl) s_Rd_235 (by decide +kernel) ?_
    refine v_aload_n (am_Dk d_Rd_goOn (k := 31) rfl) rfl ?_
    refine v_get (am_Dk d_Rd_goOn (k := 32) rfl) f_Rd_109 ht rfl ?_
    refine v_callU (rest := [.ref 50]) (As := []) (mc' := 0) (ms' := 0) (am_Dk d_Rd_goOn (k := 33) rfl) c_Rd_238 (Or.inr (by decide +kernel)) (t_jE_ordinal G (d := 0) (k := 44) (v := 6) (by omega) (en_oR 6 (by decide))) (by omega) (by omega) (by omega) (by simp [Value.category]) rfl (fun v1 M2 n3 h4 => ?_) (fun _ _ _ h4 => ?_)
    rotate_left
    · exact absurd h4.1 (by simp)
    obtain ⟨h4, e5, e6⟩ := h4
    replace e5 := e5.symm
    replace e6 := e6.symm
    subst e5
    subst e6
    cases h4
    show am_V G _ _ _ _ _ 72 [(2, .ref ((tok f n a).2.2.2.2)), (1, .ref (2 * (K.length + 1) + 1008)), (0, .ref 1005)] [.int 6, .ref 50] M nx 0 0
    refine v_tiald (v := .int 6) (am_Dk d_Rd_goOn (k := 34) rfl) (List.mem_of_getElem? (i := 0) rfl) (show ¬ (_ ∨ _) from by decide) (by decide) ?_
    refine v_tableIn (tgt := 189) (off := 116) (am_Dk d_Rd_goOn (k := 35) rfl) (by decide) (by decide) (by decide) (by decide) ?_
    refine v_aload_n (am_Dk d_Rd_goOn (k := 73) rfl) rfl ?_
    refine v_callV (rest := []) (As := []) (mc' := 0) (ms' := 0) (am_Dk d_Rd_goOn (k := 74) rfl) c_Rd_256 (Or.inl ⟨_, _, _, _, _, h5, cq_ok5⟩) (t_Rd_endList G (d := 7) (by omega) h1 h2 hn (by omega) hnm (by omega) (show cs f n M ((6, nm, mo, ar, (fe, fv, fa, fb)) :: (ro1, nm1, mo1, ar1, (ge, gv, ga, gb)) :: K, false, false, sy, -1, ou, pr, a, (le, lv, l0, l1), (re, rv, r0, r1), (e, v, a0, b0)) from ⟨h5, ⟨_, _, _, h6, hnu⟩, h7, fun _ => ht, ⟨⟨_, ht⟩, hf, ⟨_, ht1⟩, hf1, cs_Kup hK (fun i z1 z2 => rfl)⟩, cs_Xup hX (fun i (z1 : 2 * (K.length + 2) + 1008 ≤ i) z2 => rfl), hle, hri, hla⟩)) (by omega) (by omega) (by omega) (by simp [Value.category]) rfl (fun v7 M8 n9 h10 => ?_) (fun _ _ _ h10 => ?_)
    rotate_left
    · exact absurd h10.1 (by simp)
    obtain ⟨h10, e13, hc11, hf12⟩ := h10
    replace e13 := e13.symm
    subst e13
    cases h10
    show am_V G _ _ _ _ _ 193 [(2, .ref ((tok f n a).2.2.2.2)), (1, .ref (2 * (K.length + 1) + 1008)), (0, .ref 1005)] [] M8 nx 0 0
    refine v_goto (tgt := 200) (am_Dk d_Rd_goOn (k := 75) rfl) (by decide) ?_
    have hE : c_go f n ((6, nm, mo, ar, (fe, fv, fa, fb)) :: (ro1, nm1, mo1, ar1, (ge, gv, ga, gb)) :: K, false, false, sy, -1, ou, pr, a, (le, lv, l0, l1), (re, rv, r0, r1), (e, v, a0, b0)) = c_eL f n ((6, nm, mo, ar, (fe, fv, fa, fb)) :: (ro1, nm1, mo1, ar1, (ge, gv, ga, gb)) :: K, false, false, sy, -1, ou, pr, a, (le, lv, l0, l1), (re, rv, r0, r1), (e, v, a0, b0)) := by
      rw [c_go, if_neg he, if_neg (by decide), if_neg (by decide), if_neg (by decide), if_neg (by decide), if_neg (by decide), if_pos rfl]
    refine v_return (am_Dk d_Rd_goOn (k := 78) rfl) rfl (by omega) (by omega) ⟨rfl, rfl, ?_, fun i hi => (hf12 i hi).trans (rfl)⟩
    rw [hE]
    exact hc11
  refine v_aload_n (am_Dk d_Rd_goOn (k := 0) rfl) rfl ?_
  refine v_callV (rest := []) (As := []) (mc' := 0) (ms' := 0) (am_Dk d_Rd_goOn (k := 1) rfl) c_Rd_127 (Or.inl ⟨_, _, _, _, _, h5, cq_ok5⟩) (t_Rd_innermost G (d := 0) (j := K.length + 1) (dp := 0) (by omega) (by omega) h5 h7) (by omega) (by omega) (by omega) (by simp [Value.category]) rfl (fun v1 M2 n3 h4 => ?_) (fun _ _ _ h4 => ?_)
  rotate_left
  · exact absurd h4.1 (by simp)
  obtain ⟨h4, e5, e6⟩ := h4
  replace e5 := e5.symm
  replace e6 := e6.symm
  subst e5
  subst e6
  cases h4
  show am_V G _ _ _ _ _ 4 [(0, .ref 1005)] [.ref (2 * (K.length + 1) + 1008)] M nx 0 0
  refine v_astore_n (L1 := [(1, .ref (2 * (K.length + 1) + 1008)), (0, .ref 1005)]) (am_Dk d_Rd_goOn (k := 2) rfl) (by decide) rfl ?_
  refine v_aload_n (am_Dk d_Rd_goOn (k := 3) rfl) rfl ?_
  refine v_get (am_Dk d_Rd_goOn (k := 4) rfl) f_Rd_24 h5 rfl ?_
  refine v_get (am_Dk d_Rd_goOn (k := 5) rfl) f_Rd_200 h6 rfl ?_
  refine v_astore_n (L1 := [(2, .ref ((tok f n a).2.2.2.2)), (1, .ref (2 * (K.length + 1) + 1008)), (0, .ref 1005)]) (am_Dk d_Rd_goOn (k := 6) rfl) (by decide) rfl ?_
  refine v_aload_n (am_Dk d_Rd_goOn (k := 7) rfl) rfl ?_
  refine v_getK (i := (tok f n a).2.2.2.2) (v := .int (kn_inf ((tok f n a).2.2.2.2))) (am_Dk d_Rd_goOn (k := 8) rfl) g_Rd_223 (Or.inl rfl) (kn_inf_k _ (by omega)) ?_
  refine v_if_le (tgt := 62) (am_Dk d_Rd_goOn (k := 9) rfl) (by decide) (fun c7 => ?_) (fun c7 => ?_)
  · exact h62
  · have p1 := Int32.not_le.mp c7
    refine v_aload_n (am_Dk d_Rd_goOn (k := 10) rfl) rfl ?_
    refine v_getK (i := (tok f n a).2.2.2.2) (v := .int (kn_inf ((tok f n a).2.2.2.2))) (am_Dk d_Rd_goOn (k := 11) rfl) g_Rd_223 (Or.inl rfl) (kn_inf_k _ (by omega)) ?_
    refine v_aload_n (am_Dk d_Rd_goOn (k := 12) rfl) rfl ?_
    refine v_get (am_Dk d_Rd_goOn (k := 13) rfl) f_Rd_115 ht rfl ?_
    refine v_icmp_gt (tgt := 62) (am_Dk d_Rd_goOn (k := 14) rfl) (by decide) (fun c8 => ?_) (fun c8 => ?_)
    · exact h62
    · have p2 := Int32.not_lt.mp c8
      refine v_aload_n (am_Dk d_Rd_goOn (k := 15) rfl) rfl ?_
      refine v_get (am_Dk d_Rd_goOn (k := 16) rfl) f_Rd_131 ht rfl ?_
      refine v_aload_n (am_Dk d_Rd_goOn (k := 17) rfl) rfl ?_
      refine v_getK (i := (tok f n a).2.2.2.2) (v := .int (kn_ml ((tok f n a).2.2.2.2))) (am_Dk d_Rd_goOn (k := 18) rfl) g_Rd_226 (Or.inl rfl) (kn_ml_k _ (by omega)) ?_
      refine v_icmp_gt (tgt := 62) (am_Dk d_Rd_goOn (k := 19) rfl) (by decide) (fun c9 => ?_) (fun c9 => ?_)
      · exact h62
      · exact absurd ⟨p1, p2, Int32.not_lt.mp c9⟩ he
set_option maxRecDepth 20000 in
theorem t_Rd_goOn0 (G : am_G) {d nx : Nat} (hd : 8 ≤ d) {M : am_M} {f : Nat → Int32} {n : Nat} (h1 : M 1001 = some (.inr (1, [.ref 1002, .int (nI n)]))) (h2 : M 1002 = some (.inl (0, 4096, .inl f))) (hn : n ≤ 4096) {K : List Frm} {nm ar sy ou a : Nat} {mo pr fa fb fe l0 l1 le r0 r1 re a0 b0 e : Int32} {fv lv rv v : Int64} (hl : K.length < 100) (hnm : nm < 26) (ha : a ≤ n) (he : ¬ (0 < kn_inf (tok f n a).2.2.2.2 ∧ kn_inf (tok f n a).2.2.2.2 ≤ mo ∧ pr ≤ kn_ml (tok f n a).2.2.2.2)) (hcs : cs f n M ((0, nm, mo, ar, (fe, fv, fa, fb)) :: K, false, false, sy, -1, ou, pr, a, (le, lv, l0, l1), (re, rv, r0, r1), (e, v, a0, b0))) : am_Tr G m_Rd_goOn d 0 0 [.ref 1005] M nx (fun r M1 nx1 => r = .inl none ∧ nx1 = nx ∧ cs f n M1 (c_go f n ((0, nm, mo, ar, (fe, fv, fa, fb)) :: K, false, false, sy, -1, ou, pr, a, (le, lv, l0, l1), (re, rv, r0, r1), (e, v, a0, b0))) ∧ cs_fr M M1) := by
  refine am_TrOf (by decide) (Nat.le_of_ble_eq_true rfl) ?_
  show am_V G _ _ _ _ _ 0 [(0, .ref 1005)] [] M nx 0 0
  obtain ⟨h5, ⟨nu, nf, nt, h6, hnu⟩, h7, qT, ⟨⟨pr0, ht⟩, hf, hK⟩, hX, hle, hri, hla⟩ := hcs
  replace h5 : M 1005 = some (.inr (5, [.ref 1001, .ref 1003, .ref 1006, .ref 1007, .int (nI (K.length + 1)), .int 0, .int 0, .int (nI sy), .int (-1), .ref ou, .ref 1208, .ref 1209, .ref 1210])) := h5
  clear ht
  have ht := qT rfl
  replace ht : M (2 * K.length + 1008) = some (.inr (7, [.ref 38, .ref nm, .int mo, .int pr, .int (nI ar), .ref (2 * K.length + 1009)])) := ht
  replace hf : M (2 * K.length + 1009) = some (.inr (8, [.int fe, .long fv, .int fa, .int fb])) := hf
  replace hle : M 1208 = some (.inr (8, [.int le, .long lv, .int l0, .int l1])) := hle
  replace hri : M 1209 = some (.inr (8, [.int re, .long rv, .int r0, .int r1])) := hri
  replace hla : M 1210 = some (.inr (8, [.int e, .long v, .int a0, .int b0])) := hla
  have tk0 := tok_ok f ha
  have h62 : am_V G m_Rd_goOn d 0 0 (fun r M1 nx1 => r = .inl none ∧ nx1 = nx ∧ cs f n M1 (c_go f n ((0, nm, mo, ar, (fe, fv, fa, fb)) :: K, false, false, sy, -1, ou, pr, a, (le, lv, l0, l1), (re, rv, r0, r1), (e, v, a0, b0))) ∧ cs_fr M M1) 62 [(2, .ref ((tok f n a).2.2.2.2)), (1, .ref (2 * K.length + 1008)), (0, .ref 1005)] [] M nx 0 0 := by
    refine v_gets (v := .ref 50) (am_Dk d_Rd_goOn (k := 30) rfl) s_Rd_235 (by decide +kernel) ?_
    refine v_aload_n (am_Dk d_Rd_goOn (k := 31) rfl) rfl ?_
    refine v_get (am_Dk d_Rd_goOn (k := 32) rfl) f_Rd_109 ht rfl ?_
    refine v_callU (rest := [.ref 50]) (As := []) (mc' := 0) (ms' := 0) (am_Dk d_Rd_goOn (k := 33) rfl) c_Rd_238 (Or.inr (by decide +kernel)) (t_jE_ordinal G (d := 0) (k := 38) (v := 0) (by omega) (en_oR 0 (by decide))) (by omega) (by omega) (by omega) (by simp [Value.category]) rfl (fun v1 M2 n3 h4 => ?_) (fun _ _ _ h4 => ?_)
    rotate_left
    · exact absurd h4.1 (by simp)
    obtain ⟨h4, e5, e6⟩ := h4
    replace e5 := e5.symm
    replace e6 := e6.symm
    subst e5
    subst e6
    cases h4
    show am_V G _ _ _ _ _ 72 [(2, .ref ((tok f n a).2.2.2.2)), (1, .ref (2 * K.length + 1008)), (0, .ref 1005)] [.int 0, .ref 50] M nx 0 0
    refine v_tiald (v := .int 0) (am_Dk d_Rd_goOn (k := 34) rfl) (List.mem_of_getElem? (i := 0) rfl) (show ¬ (_ ∨ _) from by decide) (by decide) ?_
    refine v_tableOut (tgt := 196) (am_Dk d_Rd_goOn (k := 35) rfl) (by decide) (by decide) ?_
    refine v_aload_n (am_Dk d_Rd_goOn (k := 76) rfl) rfl ?_
    refine v_callV (rest := []) (As := []) (mc' := 0) (ms' := 0) (am_Dk d_Rd_goOn (k := 77) rfl) c_Rd_259 (Or.inl ⟨_, _, _, _, _, h5, cq_ok5⟩) (t_Rd_endWhole G (d := 7) (by omega) h1 h2 hn (by omega) hnm (by omega) (show cs f n M ((0, nm, mo, ar, (fe, fv, fa, fb)) :: K, false, false, sy, -1, ou, pr, a, (le, lv, l0, l1), (re, rv, r0, r1), (e, v, a0, b0)) from ⟨h5, ⟨_, _, _, h6, hnu⟩, h7, fun _ => ht, ⟨⟨_, ht⟩, hf, cs_Kup hK (fun i z1 z2 => rfl)⟩, cs_Xup hX (fun i (z1 : 2 * (K.length + 1) + 1008 ≤ i) z2 => rfl), hle, hri, hla⟩)) (by omega) (by omega) (by omega) (by simp [Value.category]) rfl (fun v7 M8 n9 h10 => ?_) (fun _ _ _ h10 => ?_)
    rotate_left
    · exact absurd h10.1 (by simp)
    obtain ⟨h10, e13, hc11, hf12⟩ := h10
    replace e13 := e13.symm
    subst e13
    cases h10
    show am_V G _ _ _ _ _ 200 [(2, .ref ((tok f n a).2.2.2.2)), (1, .ref (2 * K.length + 1008)), (0, .ref 1005)] [] M8 nx 0 0
    have hE : c_go f n ((0, nm, mo, ar, (fe, fv, fa, fb)) :: K, false, false, sy, -1, ou, pr, a, (le, lv, l0, l1), (re, rv, r0, r1), (e, v, a0, b0)) = c_eW f n ((0, nm, mo, ar, (fe, fv, fa, fb)) :: K, false, false, sy, -1, ou, pr, a, (le, lv, l0, l1), (re, rv, r0, r1), (e, v, a0, b0)) := by
      rw [c_go, if_neg he, if_neg (by decide), if_neg (by decide), if_neg (by decide), if_neg (by decide), if_neg (by decide), if_neg (by decide)]
    refine v_return (am_Dk d_Rd_goOn (k := 78) rfl) rfl (by omega) (by omega) ⟨rfl, rfl, ?_, fun i hi => (hf12 i hi).trans (rfl)⟩
    rw [hE]
    exact hc11
  refine v_aload_n (am_Dk d_Rd_goOn (k := 0) rfl) rfl ?_
  refine v_callV (rest := []) (As := []) (mc' := 0) (ms' := 0) (am_Dk d_Rd_goOn (k := 1) rfl) c_Rd_127 (Or.inl ⟨_, _, _, _, _, h5, cq_ok5⟩) (t_Rd_innermost G (d := 0) (j := K.length) (dp := 0) (by omega) (by omega) h5 h7) (by omega) (by omega) (by omega) (by simp [Value.category]) rfl (fun v1 M2 n3 h4 => ?_) (fun _ _ _ h4 => ?_)
  rotate_left
  · exact absurd h4.1 (by simp)
  obtain ⟨h4, e5, e6⟩ := h4
  replace e5 := e5.symm
  replace e6 := e6.symm
  subst e5
  subst e6
  cases h4
  show am_V G _ _ _ _ _ 4 [(0, .ref 1005)] [.ref (2 * K.length + 1008)] M nx 0 0
  refine v_astore_n (L1 := [(1, .ref (2 * K.length + 1008)), (0, .ref 1005)]) (am_Dk d_Rd_goOn (k := 2) rfl) (by decide) rfl ?_
  refine v_aload_n (am_Dk d_Rd_goOn (k := 3) rfl) rfl ?_
  refine v_get (am_Dk d_Rd_goOn (k := 4) rfl) f_Rd_24 h5 rfl ?_
  refine v_get (am_Dk d_Rd_goOn (k := 5) rfl) f_Rd_200 h6 rfl ?_
  refine v_astore_n (L1 := [(2, .ref ((tok f n a).2.2.2.2)), (1, .ref (2 * K.length + 1008)), (0, .ref 1005)]) (am_Dk d_Rd_goOn (k := 6) rfl) (by decide) rfl ?_
  refine v_aload_n (am_Dk d_Rd_goOn (k := 7) rfl) rfl ?_
  refine v_getK (i := (tok f n a).2.2.2.2) (v := .int (kn_inf ((tok f n a).2.2.2.2))) (am_Dk d_Rd_goOn (k := 8) rfl) g_Rd_223 (Or.inl rfl) (kn_inf_k _ (by omega)) ?_
  refine v_if_le (tgt := 62) (am_Dk d_Rd_goOn (k := 9) rfl) (by decide) (fun c7 => ?_) (fun c7 => ?_)
  · exact h62
  · have p1 := Int32.not_le.mp c7
    refine v_aload_n (am_Dk d_Rd_goOn (k := 10) rfl) rfl ?_
    refine v_getK (i := (tok f n a).2.2.2.2) (v := .int (kn_inf ((tok f n a).2.2.2.2))) (am_Dk d_Rd_goOn (k := 11) rfl) g_Rd_223 (Or.inl rfl) (kn_inf_k _ (by omega)) ?_
    refine v_aload_n (am_Dk d_Rd_goOn (k := 12) rfl) rfl ?_
    refine v_get (am_Dk d_Rd_goOn (k := 13) rfl) f_Rd_115 ht rfl ?_
    refine v_icmp_gt (tgt := 62) (am_Dk d_Rd_goOn (k := 14) rfl) (by decide) (fun c8 => ?_) (fun c8 => ?_)
    · exact h62
    · have p2 := Int32.not_lt.mp c8
      refine v_aload_n (am_Dk d_Rd_goOn (k := 15) rfl) rfl ?_
      refine v_get (am_Dk d_Rd_goOn (k := 16) rfl) f_Rd_131 ht rfl ?_
      refine v_aload_n (am_Dk d_Rd_goOn (k := 17) rfl) rfl ?_
      refine v_getK (i := (tok f n a).2.2.2.2) (v := .int (kn_ml ((tok f n a).2.2.2.2))) (am_Dk d_Rd_goOn (k := 18) rfl) g_Rd_226 (Or.inl rfl) (kn_ml_k _ (by omega)) ?_
      refine v_icmp_gt (tgt := 62) (am_Dk d_Rd_goOn (k := 19) rfl) (by decide) (fun c9 => ?_) (fun c9 => ?_)
      · exact h62
      · exact absurd ⟨p1, p2, Int32.not_lt.mp c9⟩ he
