/-! THE NEXT SIGN (mine; rows laid by the walker) -/
def tokAt (f : Nat → Int32) (n p : Nat) : Nat × Nat × Nat × Int64 × Nat :=
  if cpB (tb f n p) = true then ⟨0, p, plt (tb f n) n p, 0, 0⟩
  else if dgB (tb f n p) = true then (if 9007199254740991 < (dv (tb f n) n p).2 then ⟨11, p, (dv (tb f n) n p).1, 0, 0⟩ else ⟨1, p, (dv (tb f n) n p).1, (dv (tb f n) n p).2, 0⟩)
  else if smB (tb f n p) = true then ⟨2, p, plt (tb f n) n p, 0, spl f n p (plt (tb f n) n p)⟩
  else if tb f n p = 39 then (if tb f n (qd (tb f n) n (p + 1)) = 39 then ⟨2, p, qd (tb f n) n (p + 1) + 1, 0, spl f n (p + 1) (qd (tb f n) n (p + 1))⟩ else ⟨11, p, p + 1, 0, 0⟩)
  else if syB (tb f n p) = true then (if ((py (tb f n) n (p + 1)) = p + 1 ∧ tb f n p = 46 ∧ (tb f n (py (tb f n) n (p + 1)) = -1 ∨ tb f n (py (tb f n) n (p + 1)) = 37 ∨ blB (tb f n (py (tb f n) n (p + 1))) = true)) then ⟨9, p, (py (tb f n) n (p + 1)), 0, 0⟩ else ⟨2, p, (py (tb f n) n (p + 1)), 0, spl f n p (py (tb f n) n (p + 1))⟩)
  else if (tb f n p = 91 ∧ tb f n (p + 1) = 93) then ⟨2, p, p + 2, 0, spl f n p (p + 2)⟩
  else if (tb f n p = 33 ∨ tb f n p = 59) then ⟨2, p, p + 1, 0, spl f n p (p + 1)⟩
  else if tb f n p = -1 then ⟨10, p, p, 0, 0⟩
  else ⟨mkK (tb f n p) - 26, p, p + 1, 0, if mkK (tb f n p) = 33 then 1 else 0⟩
def tok (f : Nat → Int32) (n a : Nat) : Nat × Nat × Nat × Int64 × Nat := tokAt f n (pb (tb f n) n a)
theorem mkK_ne (x : Int32) : ¬ mkK x = 27 := by
  unfold mkK
  repeat' split
  all_goals decide
theorem cls_in {f : Nat → Int32} {n p : Nat} : (cpB (tb f n p) = true → p < n) ∧ (dgB (tb f n p) = true → p < n) ∧ (smB (tb f n p) = true → p < n) ∧ (syB (tb f n p) = true → p < n) := by
  by_cases h : p < n
  · exact ⟨fun _ => h, fun _ => h, fun _ => h, fun _ => h⟩
  · rw [tb, if_neg h]
    exact ⟨fun z => absurd z (by decide), fun z => absurd z (by decide), fun z => absurd z (by decide), fun z => absurd z (by decide)⟩
set_option maxRecDepth 20000 in
theorem t_Sg_next (G : am_G) {d nx : Nat} (hd : 6 ≤ d) {M : am_M} {f : Nat → Int32} {n : Nat} (h1 : M 1001 = some (.inr (1, [.ref 1002, .int (nI n)]))) (h2 : M 1002 = some (.inl (0, 4096, .inl f))) (hn : n ≤ 4096) {kd nm a : Nat} {pl nf nt : Int32} {nu : Int64} (ha : a ≤ n) (h6 : M 1006 = some (.inr (6, [.ref 1001, .ref kd, .int pl, .int (nI a), .long nu, .ref nm, .int nf, .int nt]))) : am_Tr G m_Sg_next d 0 0 [.ref 1006] M nx (fun r M1 nx1 => r = .inl none ∧ nx1 = nx ∧ ∃ nu1 nf1 nt1, M1 = am_up M 1006 (.inr (6, [.ref 1001, .ref (26 + (tok f n a).1), .int (nI (tok f n a).2.1), .int (nI (tok f n a).2.2.1), .long nu1, .ref ((tok f n a).2.2.2.2), .int nf1, .int nt1])) ∧ ((tok f n a).1 = 1 → nu1 = (tok f n a).2.2.2.1)) := by
  refine am_TrOf (by decide) (Nat.le_of_ble_eq_true rfl) ?_
  show am_V G _ _ _ _ _ 0 [(0, .ref 1006)] [] M nx 0 0
  obtain ⟨p, hp⟩ : ∃ p, pb (tb f n) n a = p := ⟨_, rfl⟩
  have hpn : a ≤ p ∧ p ≤ n := by rw [← hp]; exact pb_rng (tb f n) n (n - a) a false (by omega)
  have hcl := @cls_in f n p
  refine v_aload_n (am_Dk d_Sg_next (k := 0) rfl) rfl ?_
  refine v_aload_n (am_Dk d_Sg_next (k := 1) rfl) rfl ?_
  refine v_callV (rest := [.ref 1006]) (As := []) (mc' := 0) (ms' := 0) (am_Dk d_Sg_next (k := 2) rfl) c_Sg_40 (Or.inl ⟨_, _, _, _, _, h6, cq_ok6⟩) ((hp ▸ t_Sg_pastBlanks G (d := 1) (af := 0) (a := a) (by omega) h1 h2 (by omega) (by omega) h6 : am_Tr G m_Sg_pastBlanks 1 0 0 [.ref 1006] M nx (fun r M1 nx1 => r = .inl (some (.int (nI p))) ∧ M1 = M ∧ nx1 = nx))) (by omega) (by omega) (by omega) (by simp [Value.category]) rfl (fun v1 M2 n3 h4 => ?_) (fun _ _ _ h4 => ?_)
  rotate_left
  · exact absurd h4.1 (by simp)
  obtain ⟨h4, e5, e6⟩ := h4
  replace e5 := e5.symm
  replace e6 := e6.symm
  subst e5
  subst e6
  cases h4
  show am_V G _ _ _ _ _ 5 [(0, .ref 1006)] [.int (nI p), .ref 1006] M nx 0 0
  refine v_put (am_Dk d_Sg_next (k := 3) rfl) f_Sg_44 h6 (Nat.le_of_ble_eq_true rfl) rfl rfl ?_
  refine v_aload_n (am_Dk d_Sg_next (k := 4) rfl) rfl ?_
  have m7 : (am_up M 1006 (.inr (6, [.ref 1001, .ref kd, .int (nI p), .int (nI a), .long nu, .ref nm, .int nf, .int nt]))) 1006 = some (.inr (6, [.ref 1001, .ref kd, .int (nI p), .int (nI a), .long nu, .ref nm, .int nf, .int nt])) := am_up_eq _ _ _
  refine v_get (am_Dk d_Sg_next (k := 5) rfl) f_Sg_9 m7 rfl ?_
  refine v_aload_n (am_Dk d_Sg_next (k := 6) rfl) rfl ?_
  refine v_get (am_Dk d_Sg_next (k := 7) rfl) f_Sg_44 m7 rfl ?_
  have m8 : (am_up M 1006 (.inr (6, [.ref 1001, .ref kd, .int (nI p), .int (nI a), .long nu, .ref nm, .int nf, .int nt]))) 1001 = some (.inr (1, [.ref 1002, .int (nI n)])) := (am_up_ne (show 1001 ≠ 1006 from by decide)).trans (h1)
  have m9 : (am_up M 1006 (.inr (6, [.ref 1001, .ref kd, .int (nI p), .int (nI a), .long nu, .ref nm, .int nf, .int nt]))) 1002 = some (.inl (0, 4096, .inl f)) := (am_up_ne (show 1002 ≠ 1006 from by decide)).trans (h2)
  refine v_callV (rest := []) (As := [.int (nI p)]) (mc' := 0) (ms' := 0) (am_Dk d_Sg_next (k := 8) rfl) c_Sg_47 (Or.inl ⟨_, _, _, _, _, m8, cq_ok1⟩) (t_Tape_at G (d := 0) (i := p) (by omega) m8 m9 (by omega) (by omega)) (by omega) (by omega) (by omega) (by simp [Value.category]) rfl (fun v10 M11 n12 h13 => ?_) (fun _ _ _ h13 => ?_)
  rotate_left
  · exact absurd h13.1 (by simp)
  obtain ⟨h13, e14, e15⟩ := h13
  replace e14 := e14.symm
  replace e15 := e15.symm
  subst e14
  subst e15
  cases h13
  show am_V G _ _ _ _ _ 19 [(0, .ref 1006)] [.int (tb f n p)] (am_up M 1006 (.inr (6, [.ref 1001, .ref kd, .int (nI p), .int (nI a), .long nu, .ref nm, .int nf, .int nt]))) nx 0 0
  refine v_istore_n (L1 := [(1, .int (tb f n p)), (0, .ref 1006)]) (am_Dk d_Sg_next (k := 9) rfl) (by decide) rfl ?_
  refine v_iload_n (am_Dk d_Sg_next (k := 10) rfl) rfl ?_
  refine v_callS (rest := []) (As := [.int (tb f n p)]) (mc' := 0) (ms' := 0) (am_Dk d_Sg_next (k := 11) rfl) c_Sg_53 (t_Sg_isCapital G (d := 0)) (by omega) (by omega) (by omega) (by simp [Value.category]) rfl (fun v16 M17 n18 h19 => ?_) (fun _ _ _ h19 => ?_)
  rotate_left
  · exact absurd h19.1 (by simp)
  obtain ⟨h19, e20, e21⟩ := h19
  replace e20 := e20.symm
  replace e21 := e21.symm
  subst e20
  subst e21
  cases h19
  show am_V G _ _ _ _ _ 24 [(1, .int (tb f n p)), (0, .ref 1006)] [.int (bi (cpB (tb f n p)))] (am_up M 1006 (.inr (6, [.ref 1001, .ref kd, .int (nI p), .int (nI a), .long nu, .ref nm, .int nf, .int nt]))) nx 0 0
  refine v_if_eq (tgt := 41) (am_Dk d_Sg_next (k := 12) rfl) (by decide) (fun c22 => ?_) (fun c22 => ?_)
  · have Nc22 := bi0.mp c22
    refine v_iload_n (am_Dk d_Sg_next (k := 19) rfl) rfl ?_
    refine v_callS (rest := []) (As := [.int (tb f n p)]) (mc' := 0) (ms' := 0) (am_Dk d_Sg_next (k := 20) rfl) c_Sg_67 (t_Sg_isDigit G (d := 0)) (by omega) (by omega) (by omega) (by simp [Value.category]) rfl (fun v23 M24 n25 h26 => ?_) (fun _ _ _ h26 => ?_)
    rotate_left
    · exact absurd h26.1 (by simp)
    obtain ⟨h26, e27, e28⟩ := h26
    replace e27 := e27.symm
    replace e28 := e28.symm
    subst e27
    subst e28
    cases h26
    show am_V G _ _ _ _ _ 45 [(1, .int (tb f n p)), (0, .ref 1006)] [.int (bi (dgB (tb f n p)))] (am_up M 1006 (.inr (6, [.ref 1001, .ref kd, .int (nI p), .int (nI a), .long nu, .ref nm, .int nf, .int nt]))) nx 0 0
    refine v_if_eq (tgt := 55) (am_Dk d_Sg_next (k := 21) rfl) (by decide) (fun c29 => ?_) (fun c29 => ?_)
    · have Nc29 := bi0.mp c29
      refine v_iload_n (am_Dk d_Sg_next (k := 25) rfl) rfl ?_
      refine v_callS (rest := []) (As := [.int (tb f n p)]) (mc' := 0) (ms' := 0) (am_Dk d_Sg_next (k := 26) rfl) c_Sg_73 (t_Sg_isSmall G (d := 0)) (by omega) (by omega) (by omega) (by simp [Value.category]) rfl (fun v30 M31 n32 h33 => ?_) (fun _ _ _ h33 => ?_)
      rotate_left
      · exact absurd h33.1 (by simp)
      obtain ⟨h33, e34, e35⟩ := h33
      replace e34 := e34.symm
      replace e35 := e35.symm
      subst e34
      subst e35
      cases h33
      show am_V G _ _ _ _ _ 59 [(1, .int (tb f n p)), (0, .ref 1006)] [.int (bi (smB (tb f n p)))] (am_up M 1006 (.inr (6, [.ref 1001, .ref kd, .int (nI p), .int (nI a), .long nu, .ref nm, .int nf, .int nt]))) nx 0 0
      refine v_if_eq (tgt := 73) (am_Dk d_Sg_next (k := 27) rfl) (by decide) (fun c36 => ?_) (fun c36 => ?_)
      · have Nc36 := bi0.mp c36
        refine v_iload_n (am_Dk d_Sg_next (k := 33) rfl) rfl ?_
        refine v_bipush (v := 39) (am_Dk d_Sg_next (k := 34) rfl) (by decide) ?_
        refine v_icmp_ne (tgt := 86) (am_Dk d_Sg_next (k := 35) rfl) (by decide) (fun c37 => ?_) (fun c37 => ?_)
        · refine v_iload_n (am_Dk d_Sg_next (k := 39) rfl) rfl ?_
          refine v_callS (rest := []) (As := [.int (tb f n p)]) (mc' := 0) (ms' := 0) (am_Dk d_Sg_next (k := 40) rfl) c_Sg_83 (t_Sg_isSymbol G (d := 0) (by omega)) (by omega) (by omega) (by omega) (by simp [Value.category]) rfl (fun v38 M39 n40 h41 => ?_) (fun _ _ _ h41 => ?_)
          rotate_left
          · exact absurd h41.1 (by simp)
          obtain ⟨h41, e42, e43⟩ := h41
          replace e42 := e42.symm
          replace e43 := e43.symm
          subst e42
          subst e43
          cases h41
          show am_V G _ _ _ _ _ 90 [(1, .int (tb f n p)), (0, .ref 1006)] [.int (bi (syB (tb f n p)))] (am_up M 1006 (.inr (6, [.ref 1001, .ref kd, .int (nI p), .int (nI a), .long nu, .ref nm, .int nf, .int nt]))) nx 0 0
          refine v_if_eq (tgt := 100) (am_Dk d_Sg_next (k := 41) rfl) (by decide) (fun c44 => ?_) (fun c44 => ?_)
          · have Nc44 := bi0.mp c44
            refine v_aload_n (am_Dk d_Sg_next (k := 45) rfl) rfl ?_
            refine v_iload_n (am_Dk d_Sg_next (k := 46) rfl) rfl ?_
            refine v_callV (rest := []) (As := [.int (tb f n p)]) (mc' := 0) (ms' := 0) (am_Dk d_Sg_next (k := 47) rfl) c_Sg_89 (Or.inl ⟨_, _, _, _, _, m7, cq_ok6⟩) (t_Sg_becomeMark G (d := 1) (p := p) (b := (tb f n p)) (by omega) m8 m9 (by omega) (by omega) m7) (by omega) (by omega) (by omega) (by simp [Value.category]) rfl (fun v45 M46 n47 h48 => ?_) (fun v45 M46 n47 h48 => ?_)
            · rcases h48 with ⟨hc, h48, e1, e2⟩ | ⟨hc, h48, e1, e2⟩ | ⟨hc, h48, e1, e2⟩ | ⟨hc, h48, e1, e2⟩
              · cases h48
                replace e1 := e1.symm
                replace e2 := e2.symm
                subst e1
                subst e2
                rw [am_uu0 (a := 1006)]
                have hq1 := tb_in hc.2 (by decide)
                show am_V G _ _ _ _ _ 105 [(1, .int (tb f n p)), (0, .ref 1006)] [] (am_up M 1006 (.inr (6, [.ref 1001, .ref 28, .int (nI p), .int (nI (p + 2)), .long nu, .ref nm, .int (nI p), .int (nI (p + 2))]))) nx 0 0
                refine v_aload_n (am_Dk d_Sg_next (k := 48) rfl) rfl ?_
                refine v_aload_n (am_Dk d_Sg_next (k := 49) rfl) rfl ?_
                have m49 : (am_up M 1006 (.inr (6, [.ref 1001, .ref 28, .int (nI p), .int (nI (p + 2)), .long nu, .ref nm, .int (nI p), .int (nI (p + 2))]))) 1006 = some (.inr (6, [.ref 1001, .ref 28, .int (nI p), .int (nI (p + 2)), .long nu, .ref nm, .int (nI p), .int (nI (p + 2))])) := am_up_eq _ _ _
                refine v_get (am_Dk d_Sg_next (k := 50) rfl) f_Sg_21 m49 rfl ?_
                refine v_gets (v := .ref 28) (am_Dk d_Sg_next (k := 51) rfl) s_Sg_92 (by decide +kernel) ?_
                refine v_acmp_ne (rx := (some 28)) (ry := (some 28)) (tgt := 134) (am_Dk d_Sg_next (k := 52) rfl) rfl rfl (by decide) (en_K (by first | decide | exact (mkK_rng _).1) (by decide)) (fun c50 => ?_) (fun c50 => ?_)
                · exact absurd rfl c50
                · refine v_aload_n (am_Dk d_Sg_next (k := 53) rfl) rfl ?_
                  refine v_get (am_Dk d_Sg_next (k := 54) rfl) f_Sg_9 m49 rfl ?_
                  refine v_aload_n (am_Dk d_Sg_next (k := 55) rfl) rfl ?_
                  refine v_get (am_Dk d_Sg_next (k := 56) rfl) f_Sg_95 m49 rfl ?_
                  refine v_aload_n (am_Dk d_Sg_next (k := 57) rfl) rfl ?_
                  refine v_get (am_Dk d_Sg_next (k := 58) rfl) f_Sg_98 m49 rfl ?_
                  have m51 : (am_up M 1006 (.inr (6, [.ref 1001, .ref 28, .int (nI p), .int (nI (p + 2)), .long nu, .ref nm, .int (nI p), .int (nI (p + 2))]))) 1001 = some (.inr (1, [.ref 1002, .int (nI n)])) := (am_up_ne (show 1001 ≠ 1006 from by decide)).trans (h1)
                  have m52 : (am_up M 1006 (.inr (6, [.ref 1001, .ref 28, .int (nI p), .int (nI (p + 2)), .long nu, .ref nm, .int (nI p), .int (nI (p + 2))]))) 1002 = some (.inl (0, 4096, .inl f)) := (am_up_ne (show 1002 ≠ 1006 from by decide)).trans (h2)
                  refine v_callS (rest := [.ref 1006]) (As := [.ref 1001, .int (nI p), .int (nI (p + 2))]) (mc' := 0) (ms' := 0) (am_Dk d_Sg_next (k := 59) rfl) c_Sg_101 (t_Nm_spelled G (d := 5) (x := p) (y := p + 2) (by omega) m51 m52 (by omega) (by omega) (by omega)) (by omega) (by omega) (by omega) (by simp [Value.category]) rfl (fun v53 M54 n55 h56 => ?_) (fun _ _ _ h56 => ?_)
                  rotate_left
                  · exact absurd h56.1 (by simp)
                  obtain ⟨h56, e57, e58⟩ := h56
                  replace e57 := e57.symm
                  replace e58 := e58.symm
                  subst e57
                  subst e58
                  cases h56
                  show am_V G _ _ _ _ _ 131 [(1, .int (tb f n p)), (0, .ref 1006)] [.ref (spl f n p (p + 2)), .ref 1006] (am_up M 1006 (.inr (6, [.ref 1001, .ref 28, .int (nI p), .int (nI (p + 2)), .long nu, .ref nm, .int (nI p), .int (nI (p + 2))]))) nx 0 0
                  refine v_goto (tgt := 153) (am_Dk d_Sg_next (k := 60) rfl) (by decide) ?_
                  refine v_put (am_Dk d_Sg_next (k := 68) rfl) f_Sg_30 m49 (Nat.le_of_ble_eq_true rfl) rfl rfl ?_
                  rw [am_uu0 (a := 1006)]
                  have ht : tok f n a = (2, p, p + 2, 0, spl f n p (p + 2)) := by rw [tok, hp, tokAt, if_neg (show ¬ cpB (tb f n p) = true from ne_true_of_eq_false (by assumption)), if_neg (show ¬ dgB (tb f n p) = true from ne_true_of_eq_false (by assumption)), if_neg (show ¬ smB (tb f n p) = true from ne_true_of_eq_false (by assumption)), if_neg (show ¬ tb f n p = 39 from (by assumption)), if_neg (show ¬ syB (tb f n p) = true from ne_true_of_eq_false (by assumption)), if_pos hc]
                  rw [ht]
                  exact v_return (am_Dk d_Sg_next (k := 69) rfl) rfl (by omega) (by omega) ⟨rfl, rfl, _, _, _, rfl, fun z => absurd (show (2 : Nat) = 1 from z) (by decide)⟩
              · cases h48
                replace e1 := e1.symm
                replace e2 := e2.symm
                subst e1
                subst e2
                rw [am_uu0 (a := 1006)]
                have hq1 : p < n := hc.elim (fun z => tb_in z (by decide)) (fun z => tb_in z (by decide))
                show am_V G _ _ _ _ _ 105 [(1, .int (tb f n p)), (0, .ref 1006)] [] (am_up M 1006 (.inr (6, [.ref 1001, .ref 28, .int (nI p), .int (nI (p + 1)), .long nu, .ref nm, .int (nI p), .int (nI (p + 1))]))) nx 0 0
                refine v_aload_n (am_Dk d_Sg_next (k := 48) rfl) rfl ?_
                refine v_aload_n (am_Dk d_Sg_next (k := 49) rfl) rfl ?_
                have m59 : (am_up M 1006 (.inr (6, [.ref 1001, .ref 28, .int (nI p), .int (nI (p + 1)), .long nu, .ref nm, .int (nI p), .int (nI (p + 1))]))) 1006 = some (.inr (6, [.ref 1001, .ref 28, .int (nI p), .int (nI (p + 1)), .long nu, .ref nm, .int (nI p), .int (nI (p + 1))])) := am_up_eq _ _ _
                refine v_get (am_Dk d_Sg_next (k := 50) rfl) f_Sg_21 m59 rfl ?_
                refine v_gets (v := .ref 28) (am_Dk d_Sg_next (k := 51) rfl) s_Sg_92 (by decide +kernel) ?_
                refine v_acmp_ne (rx := (some 28)) (ry := (some 28)) (tgt := 134) (am_Dk d_Sg_next (k := 52) rfl) rfl rfl (by decide) (en_K (by first | decide | exact (mkK_rng _).1) (by decide)) (fun c60 => ?_) (fun c60 => ?_)
                · exact absurd rfl c60
                · refine v_aload_n (am_Dk d_Sg_next (k := 53) rfl) rfl ?_
                  refine v_get (am_Dk d_Sg_next (k := 54) rfl) f_Sg_9 m59 rfl ?_
                  refine v_aload_n (am_Dk d_Sg_next (k := 55) rfl) rfl ?_
                  refine v_get (am_Dk d_Sg_next (k := 56) rfl) f_Sg_95 m59 rfl ?_
                  refine v_aload_n (am_Dk d_Sg_next (k := 57) rfl) rfl ?_
                  refine v_get (am_Dk d_Sg_next (k := 58) rfl) f_Sg_98 m59 rfl ?_
                  have m61 : (am_up M 1006 (.inr (6, [.ref 1001, .ref 28, .int (nI p), .int (nI (p + 1)), .long nu, .ref nm, .int (nI p), .int (nI (p + 1))]))) 1001 = some (.inr (1, [.ref 1002, .int (nI n)])) := (am_up_ne (show 1001 ≠ 1006 from by decide)).trans (h1)
                  have m62 : (am_up M 1006 (.inr (6, [.ref 1001, .ref 28, .int (nI p), .int (nI (p + 1)), .long nu, .ref nm, .int (nI p), .int (nI (p + 1))]))) 1002 = some (.inl (0, 4096, .inl f)) := (am_up_ne (show 1002 ≠ 1006 from by decide)).trans (h2)
                  refine v_callS (rest := [.ref 1006]) (As := [.ref 1001, .int (nI p), .int (nI (p + 1))]) (mc' := 0) (ms' := 0) (am_Dk d_Sg_next (k := 59) rfl) c_Sg_101 (t_Nm_spelled G (d := 5) (x := p) (y := p + 1) (by omega) m61 m62 (by omega) (by omega) (by omega)) (by omega) (by omega) (by omega) (by simp [Value.category]) rfl (fun v63 M64 n65 h66 => ?_) (fun _ _ _ h66 => ?_)
                  rotate_left
                  · exact absurd h66.1 (by simp)
                  obtain ⟨h66, e67, e68⟩ := h66
                  replace e67 := e67.symm
                  replace e68 := e68.symm
                  subst e67
                  subst e68
                  cases h66
                  show am_V G _ _ _ _ _ 131 [(1, .int (tb f n p)), (0, .ref 1006)] [.ref (spl f n p (p + 1)), .ref 1006] (am_up M 1006 (.inr (6, [.ref 1001, .ref 28, .int (nI p), .int (nI (p + 1)), .long nu, .ref nm, .int (nI p), .int (nI (p + 1))]))) nx 0 0
                  refine v_goto (tgt := 153) (am_Dk d_Sg_next (k := 60) rfl) (by decide) ?_
                  refine v_put (am_Dk d_Sg_next (k := 68) rfl) f_Sg_30 m59 (Nat.le_of_ble_eq_true rfl) rfl rfl ?_
                  rw [am_uu0 (a := 1006)]
                  have ht : tok f n a = (2, p, p + 1, 0, spl f n p (p + 1)) := by rw [tok, hp, tokAt, if_neg (show ¬ cpB (tb f n p) = true from ne_true_of_eq_false (by assumption)), if_neg (show ¬ dgB (tb f n p) = true from ne_true_of_eq_false (by assumption)), if_neg (show ¬ smB (tb f n p) = true from ne_true_of_eq_false (by assumption)), if_neg (show ¬ tb f n p = 39 from (by assumption)), if_neg (show ¬ syB (tb f n p) = true from ne_true_of_eq_false (by assumption)), if_neg (show ¬ (tb f n p = 91 ∧ tb f n (p + 1) = 93) from fun z => by rw [z.1] at hc; exact absurd hc (by decide)), if_pos hc]
                  rw [ht]
                  exact v_return (am_Dk d_Sg_next (k := 69) rfl) rfl (by omega) (by omega) ⟨rfl, rfl, _, _, _, rfl, fun z => absurd (show (2 : Nat) = 1 from z) (by decide)⟩
              · cases h48
                replace e1 := e1.symm
                replace e2 := e2.symm
                subst e1
                subst e2
                rw [am_uu0 (a := 1006)]
                show am_V G _ _ _ _ _ 105 [(1, .int (tb f n p)), (0, .ref 1006)] [] (am_up M 1006 (.inr (6, [.ref 1001, .ref 36, .int (nI p), .int (nI p), .long nu, .ref nm, .int nf, .int nt]))) nx 0 0
                refine v_aload_n (am_Dk d_Sg_next (k := 48) rfl) rfl ?_
                refine v_aload_n (am_Dk d_Sg_next (k := 49) rfl) rfl ?_
                have m69 : (am_up M 1006 (.inr (6, [.ref 1001, .ref 36, .int (nI p), .int (nI p), .long nu, .ref nm, .int nf, .int nt]))) 1006 = some (.inr (6, [.ref 1001, .ref 36, .int (nI p), .int (nI p), .long nu, .ref nm, .int nf, .int nt])) := am_up_eq _ _ _
                refine v_get (am_Dk d_Sg_next (k := 50) rfl) f_Sg_21 m69 rfl ?_
                refine v_gets (v := .ref 28) (am_Dk d_Sg_next (k := 51) rfl) s_Sg_92 (by decide +kernel) ?_
                refine v_acmp_ne (rx := (some 36)) (ry := (some 28)) (tgt := 134) (am_Dk d_Sg_next (k := 52) rfl) rfl rfl (by decide) (en_K (by first | decide | exact (mkK_rng _).1) (by decide)) (fun c70 => ?_) (fun c70 => ?_)
                · refine v_aload_n (am_Dk d_Sg_next (k := 61) rfl) rfl ?_
                  refine v_get (am_Dk d_Sg_next (k := 62) rfl) f_Sg_21 m69 rfl ?_
                  refine v_gets (v := .ref 33) (am_Dk d_Sg_next (k := 63) rfl) s_Sg_105 (by decide +kernel) ?_
                  refine v_acmp_ne (rx := (some 36)) (ry := (some 33)) (tgt := 150) (am_Dk d_Sg_next (k := 64) rfl) rfl rfl (by decide) (en_K (by first | decide | exact (mkK_rng _).1) (by decide)) (fun c71 => ?_) (fun c71 => ?_)
                  · refine v_gets (v := .ref 0) (am_Dk d_Sg_next (k := 67) rfl) s_Sg_24 (by decide +kernel) ?_
                    refine v_put (am_Dk d_Sg_next (k := 68) rfl) f_Sg_30 m69 (Nat.le_of_ble_eq_true rfl) rfl rfl ?_
                    rw [am_uu0 (a := 1006)]
                    have ht : tok f n a = (10, p, p, 0, 0) := by rw [tok, hp, tokAt, if_neg (show ¬ cpB (tb f n p) = true from ne_true_of_eq_false (by assumption)), if_neg (show ¬ dgB (tb f n p) = true from ne_true_of_eq_false (by assumption)), if_neg (show ¬ smB (tb f n p) = true from ne_true_of_eq_false (by assumption)), if_neg (show ¬ tb f n p = 39 from (by assumption)), if_neg (show ¬ syB (tb f n p) = true from ne_true_of_eq_false (by assumption)), if_neg (show ¬ (tb f n p = 91 ∧ tb f n (p + 1) = 93) from fun z => by rw [hc] at z; exact absurd z.1 (by decide)), if_neg (show ¬ (tb f n p = 33 ∨ tb f n p = 59) from fun z => by rw [hc] at z; exact absurd z (by decide)), if_pos hc]
                    rw [ht]
                    exact v_return (am_Dk d_Sg_next (k := 69) rfl) rfl (by omega) (by omega) ⟨rfl, rfl, _, _, _, rfl, fun z => absurd (show (10 : Nat) = 1 from z) (by decide)⟩
                  · exact absurd c71 (by decide)
                · exact absurd c70 (by decide)
              · cases h48
                replace e1 := e1.symm
                replace e2 := e2.symm
                subst e1
                subst e2
                rw [am_uu0 (a := 1006)]
                show am_V G _ _ _ _ _ 105 [(1, .int (tb f n p)), (0, .ref 1006)] [] (am_up M 1006 (.inr (6, [.ref 1001, .ref (mkK (tb f n p)), .int (nI p), .int (nI (p + 1)), .long nu, .ref nm, .int nf, .int nt]))) nx 0 0
                refine v_aload_n (am_Dk d_Sg_next (k := 48) rfl) rfl ?_
                refine v_aload_n (am_Dk d_Sg_next (k := 49) rfl) rfl ?_
                have m72 : (am_up M 1006 (.inr (6, [.ref 1001, .ref (mkK (tb f n p)), .int (nI p), .int (nI (p + 1)), .long nu, .ref nm, .int nf, .int nt]))) 1006 = some (.inr (6, [.ref 1001, .ref (mkK (tb f n p)), .int (nI p), .int (nI (p + 1)), .long nu, .ref nm, .int nf, .int nt])) := am_up_eq _ _ _
                refine v_get (am_Dk d_Sg_next (k := 50) rfl) f_Sg_21 m72 rfl ?_
                refine v_gets (v := .ref 28) (am_Dk d_Sg_next (k := 51) rfl) s_Sg_92 (by decide +kernel) ?_
                refine v_acmp_ne (rx := (some (mkK (tb f n p)))) (ry := (some 28)) (tgt := 134) (am_Dk d_Sg_next (k := 52) rfl) rfl rfl (by decide) (en_K (by first | decide | exact (mkK_rng _).1) (by decide)) (fun c73 => ?_) (fun c73 => ?_)
                · refine v_aload_n (am_Dk d_Sg_next (k := 61) rfl) rfl ?_
                  refine v_get (am_Dk d_Sg_next (k := 62) rfl) f_Sg_21 m72 rfl ?_
                  refine v_gets (v := .ref 33) (am_Dk d_Sg_next (k := 63) rfl) s_Sg_105 (by decide +kernel) ?_
                  refine v_acmp_ne (rx := (some (mkK (tb f n p)))) (ry := (some 33)) (tgt := 150) (am_Dk d_Sg_next (k := 64) rfl) rfl rfl (by decide) (en_K (by first | decide | exact (mkK_rng _).1) (by decide)) (fun c74 => ?_) (fun c74 => ?_)
                  · refine v_gets (v := .ref 0) (am_Dk d_Sg_next (k := 67) rfl) s_Sg_24 (by decide +kernel) ?_
                    refine v_put (am_Dk d_Sg_next (k := 68) rfl) f_Sg_30 m72 (Nat.le_of_ble_eq_true rfl) rfl rfl ?_
                    rw [am_uu0 (a := 1006)]
                    have ht : tok f n a = (mkK (tb f n p) - 26, p, p + 1, 0, 0) := by rw [tok, hp, tokAt, if_neg (show ¬ cpB (tb f n p) = true from ne_true_of_eq_false (by assumption)), if_neg (show ¬ dgB (tb f n p) = true from ne_true_of_eq_false (by assumption)), if_neg (show ¬ smB (tb f n p) = true from ne_true_of_eq_false (by assumption)), if_neg (show ¬ tb f n p = 39 from (by assumption)), if_neg (show ¬ syB (tb f n p) = true from ne_true_of_eq_false (by assumption)), if_neg hc.1, if_neg hc.2.1, if_neg hc.2.2, if_neg (show ¬ mkK (tb f n p) = 33 from fun z => absurd (congrArg some z) (by assumption))]
                    rw [ht]
                    have hk9 := (mkK_rng (tb f n p)).2.2
                    exact v_return (am_Dk d_Sg_next (k := 69) rfl) rfl (by omega) (by omega) ⟨rfl, rfl, nu, nf, nt, by show _ = am_up M 1006 (.inr (6, [.ref 1001, .ref (26 + (mkK (tb f n p) - 26)), _, _, _, _, _, _])); rw [hk9]; rfl, fun z => absurd (show mkK (tb f n p) - 26 = 1 from z) (by have := mkK_ne (tb f n p); omega)⟩
                  · refine v_gets (v := .ref 1) (am_Dk d_Sg_next (k := 65) rfl) s_Sg_108 (by decide +kernel) ?_
                    refine v_goto (tgt := 153) (am_Dk d_Sg_next (k := 66) rfl) (by decide) ?_
                    refine v_put (am_Dk d_Sg_next (k := 68) rfl) f_Sg_30 m72 (Nat.le_of_ble_eq_true rfl) rfl rfl ?_
                    rw [am_uu0 (a := 1006)]
                    have ht : tok f n a = (mkK (tb f n p) - 26, p, p + 1, 0, 1) := by rw [tok, hp, tokAt, if_neg (show ¬ cpB (tb f n p) = true from ne_true_of_eq_false (by assumption)), if_neg (show ¬ dgB (tb f n p) = true from ne_true_of_eq_false (by assumption)), if_neg (show ¬ smB (tb f n p) = true from ne_true_of_eq_false (by assumption)), if_neg (show ¬ tb f n p = 39 from (by assumption)), if_neg (show ¬ syB (tb f n p) = true from ne_true_of_eq_false (by assumption)), if_neg hc.1, if_neg hc.2.1, if_neg hc.2.2, if_pos (show mkK (tb f n p) = 33 from Option.some.inj (by assumption))]
                    rw [ht]
                    have hk9 := (mkK_rng (tb f n p)).2.2
                    exact v_return (am_Dk d_Sg_next (k := 69) rfl) rfl (by omega) (by omega) ⟨rfl, rfl, nu, nf, nt, by show _ = am_up M 1006 (.inr (6, [.ref 1001, .ref (26 + (mkK (tb f n p) - 26)), _, _, _, _, _, _])); rw [hk9]; rfl, fun z => absurd (show mkK (tb f n p) - 26 = 1 from z) (by have := mkK_ne (tb f n p); omega)⟩
                · exact absurd (Option.some.inj c73) (mkK_rng _).2.1
            · rcases h48 with ⟨hc, h48, e1, e2⟩ | ⟨hc, h48, e1, e2⟩ | ⟨hc, h48, e1, e2⟩ | ⟨hc, h48, e1, e2⟩
              · cases h48
              · cases h48
              · cases h48
              · cases h48
          · have Nc44 := bi1 c44
            have hpl := hcl.2.2.2 Nc44
            refine v_aload_n (am_Dk d_Sg_next (k := 42) rfl) rfl ?_
            refine v_callV (rest := []) (As := []) (mc' := 0) (ms' := 0) (am_Dk d_Sg_next (k := 43) rfl) c_Sg_86 (Or.inl ⟨_, _, _, _, _, m7, cq_ok6⟩) (t_Sg_becomeSymbolName G (d := 1) (p := p) (by omega) m8 m9 (by omega) (by omega) m7) (by omega) (by omega) (by omega) (by simp [Value.category]) rfl (fun v75 M76 n77 h78 => ?_) (fun v75 M76 n77 h78 => ?_)
            · rcases h78 with ⟨hc, h78, e1, e2⟩ | ⟨hc, h78, e1, e2⟩
              · cases h78
                replace e1 := e1.symm
                replace e2 := e2.symm
                subst e1
                subst e2
                rw [am_uu0 (a := 1006)]
                have hq1 : p + 1 ≤ (py (tb f n) n (p + 1)) ∧ (py (tb f n) n (p + 1)) ≤ n := py_rng (tb f n) n (n - (p + 1)) (p + 1) (by omega)
                show am_V G _ _ _ _ _ 97 [(1, .int (tb f n p)), (0, .ref 1006)] [] (am_up M 1006 (.inr (6, [.ref 1001, .ref 35, .int (nI p), .int (nI (py (tb f n) n (p + 1))), .long nu, .ref nm, .int (nI p), .int (nI (py (tb f n) n (p + 1)))]))) nx 0 0
                refine v_goto (tgt := 105) (am_Dk d_Sg_next (k := 44) rfl) (by decide) ?_
                refine v_aload_n (am_Dk d_Sg_next (k := 48) rfl) rfl ?_
                refine v_aload_n (am_Dk d_Sg_next (k := 49) rfl) rfl ?_
                have m79 : (am_up M 1006 (.inr (6, [.ref 1001, .ref 35, .int (nI p), .int (nI (py (tb f n) n (p + 1))), .long nu, .ref nm, .int (nI p), .int (nI (py (tb f n) n (p + 1)))]))) 1006 = some (.inr (6, [.ref 1001, .ref 35, .int (nI p), .int (nI (py (tb f n) n (p + 1))), .long nu, .ref nm, .int (nI p), .int (nI (py (tb f n) n (p + 1)))])) := am_up_eq _ _ _
                refine v_get (am_Dk d_Sg_next (k := 50) rfl) f_Sg_21 m79 rfl ?_
                refine v_gets (v := .ref 28) (am_Dk d_Sg_next (k := 51) rfl) s_Sg_92 (by decide +kernel) ?_
                refine v_acmp_ne (rx := (some 35)) (ry := (some 28)) (tgt := 134) (am_Dk d_Sg_next (k := 52) rfl) rfl rfl (by decide) (en_K (by first | decide | exact (mkK_rng _).1) (by decide)) (fun c80 => ?_) (fun c80 => ?_)
                · refine v_aload_n (am_Dk d_Sg_next (k := 61) rfl) rfl ?_
                  refine v_get (am_Dk d_Sg_next (k := 62) rfl) f_Sg_21 m79 rfl ?_
                  refine v_gets (v := .ref 33) (am_Dk d_Sg_next (k := 63) rfl) s_Sg_105 (by decide +kernel) ?_
                  refine v_acmp_ne (rx := (some 35)) (ry := (some 33)) (tgt := 150) (am_Dk d_Sg_next (k := 64) rfl) rfl rfl (by decide) (en_K (by first | decide | exact (mkK_rng _).1) (by decide)) (fun c81 => ?_) (fun c81 => ?_)
                  · refine v_gets (v := .ref 0) (am_Dk d_Sg_next (k := 67) rfl) s_Sg_24 (by decide +kernel) ?_
                    refine v_put (am_Dk d_Sg_next (k := 68) rfl) f_Sg_30 m79 (Nat.le_of_ble_eq_true rfl) rfl rfl ?_
                    rw [am_uu0 (a := 1006)]
                    have ht : tok f n a = (9, p, py (tb f n) n (p + 1), 0, 0) := by rw [tok, hp, tokAt, if_neg (show ¬ cpB (tb f n p) = true from ne_true_of_eq_false (by assumption)), if_neg (show ¬ dgB (tb f n p) = true from ne_true_of_eq_false (by assumption)), if_neg (show ¬ smB (tb f n p) = true from ne_true_of_eq_false (by assumption)), if_neg (show ¬ tb f n p = 39 from (by assumption)), if_pos (show syB (tb f n p) = true from (by assumption)), if_pos hc]
                    rw [ht]
                    exact v_return (am_Dk d_Sg_next (k := 69) rfl) rfl (by omega) (by omega) ⟨rfl, rfl, _, _, _, rfl, fun z => absurd (show (9 : Nat) = 1 from z) (by decide)⟩
                  · exact absurd c81 (by decide)
                · exact absurd c80 (by decide)
              · cases h78
                replace e1 := e1.symm
                replace e2 := e2.symm
                subst e1
                subst e2
                rw [am_uu0 (a := 1006)]
                have hq1 : p + 1 ≤ (py (tb f n) n (p + 1)) ∧ (py (tb f n) n (p + 1)) ≤ n := py_rng (tb f n) n (n - (p + 1)) (p + 1) (by omega)
                show am_V G _ _ _ _ _ 97 [(1, .int (tb f n p)), (0, .ref 1006)] [] (am_up M 1006 (.inr (6, [.ref 1001, .ref 28, .int (nI p), .int (nI (py (tb f n) n (p + 1))), .long nu, .ref nm, .int (nI p), .int (nI (py (tb f n) n (p + 1)))]))) nx 0 0
                refine v_goto (tgt := 105) (am_Dk d_Sg_next (k := 44) rfl) (by decide) ?_
                refine v_aload_n (am_Dk d_Sg_next (k := 48) rfl) rfl ?_
                refine v_aload_n (am_Dk d_Sg_next (k := 49) rfl) rfl ?_
                have m82 : (am_up M 1006 (.inr (6, [.ref 1001, .ref 28, .int (nI p), .int (nI (py (tb f n) n (p + 1))), .long nu, .ref nm, .int (nI p), .int (nI (py (tb f n) n (p + 1)))]))) 1006 = some (.inr (6, [.ref 1001, .ref 28, .int (nI p), .int (nI (py (tb f n) n (p + 1))), .long nu, .ref nm, .int (nI p), .int (nI (py (tb f n) n (p + 1)))])) := am_up_eq _ _ _
                refine v_get (am_Dk d_Sg_next (k := 50) rfl) f_Sg_21 m82 rfl ?_
                refine v_gets (v := .ref 28) (am_Dk d_Sg_next (k := 51) rfl) s_Sg_92 (by decide +kernel) ?_
                refine v_acmp_ne (rx := (some 28)) (ry := (some 28)) (tgt := 134) (am_Dk d_Sg_next (k := 52) rfl) rfl rfl (by decide) (en_K (by first | decide | exact (mkK_rng _).1) (by decide)) (fun c83 => ?_) (fun c83 => ?_)
                · exact absurd rfl c83
                · refine v_aload_n (am_Dk d_Sg_next (k := 53) rfl) rfl ?_
                  refine v_get (am_Dk d_Sg_next (k := 54) rfl) f_Sg_9 m82 rfl ?_
                  refine v_aload_n (am_Dk d_Sg_next (k := 55) rfl) rfl ?_
                  refine v_get (am_Dk d_Sg_next (k := 56) rfl) f_Sg_95 m82 rfl ?_
                  refine v_aload_n (am_Dk d_Sg_next (k := 57) rfl) rfl ?_
                  refine v_get (am_Dk d_Sg_next (k := 58) rfl) f_Sg_98 m82 rfl ?_
                  have m84 : (am_up M 1006 (.inr (6, [.ref 1001, .ref 28, .int (nI p), .int (nI (py (tb f n) n (p + 1))), .long nu, .ref nm, .int (nI p), .int (nI (py (tb f n) n (p + 1)))]))) 1001 = some (.inr (1, [.ref 1002, .int (nI n)])) := (am_up_ne (show 1001 ≠ 1006 from by decide)).trans (h1)
                  have m85 : (am_up M 1006 (.inr (6, [.ref 1001, .ref 28, .int (nI p), .int (nI (py (tb f n) n (p + 1))), .long nu, .ref nm, .int (nI p), .int (nI (py (tb f n) n (p + 1)))]))) 1002 = some (.inl (0, 4096, .inl f)) := (am_up_ne (show 1002 ≠ 1006 from by decide)).trans (h2)
                  refine v_callS (rest := [.ref 1006]) (As := [.ref 1001, .int (nI p), .int (nI (py (tb f n) n (p + 1)))]) (mc' := 0) (ms' := 0) (am_Dk d_Sg_next (k := 59) rfl) c_Sg_101 (t_Nm_spelled G (d := 5) (x := p) (y := py (tb f n) n (p + 1)) (by omega) m84 m85 (by omega) (by omega) (by omega)) (by omega) (by omega) (by omega) (by simp [Value.category]) rfl (fun v86 M87 n88 h89 => ?_) (fun _ _ _ h89 => ?_)
                  rotate_left
                  · exact absurd h89.1 (by simp)
                  obtain ⟨h89, e90, e91⟩ := h89
                  replace e90 := e90.symm
                  replace e91 := e91.symm
                  subst e90
                  subst e91
                  cases h89
                  show am_V G _ _ _ _ _ 131 [(1, .int (tb f n p)), (0, .ref 1006)] [.ref (spl f n p (py (tb f n) n (p + 1))), .ref 1006] (am_up M 1006 (.inr (6, [.ref 1001, .ref 28, .int (nI p), .int (nI (py (tb f n) n (p + 1))), .long nu, .ref nm, .int (nI p), .int (nI (py (tb f n) n (p + 1)))]))) nx 0 0
                  refine v_goto (tgt := 153) (am_Dk d_Sg_next (k := 60) rfl) (by decide) ?_
                  refine v_put (am_Dk d_Sg_next (k := 68) rfl) f_Sg_30 m82 (Nat.le_of_ble_eq_true rfl) rfl rfl ?_
                  rw [am_uu0 (a := 1006)]
                  have ht : tok f n a = (2, p, py (tb f n) n (p + 1), 0, spl f n p (py (tb f n) n (p + 1))) := by rw [tok, hp, tokAt, if_neg (show ¬ cpB (tb f n p) = true from ne_true_of_eq_false (by assumption)), if_neg (show ¬ dgB (tb f n p) = true from ne_true_of_eq_false (by assumption)), if_neg (show ¬ smB (tb f n p) = true from ne_true_of_eq_false (by assumption)), if_neg (show ¬ tb f n p = 39 from (by assumption)), if_pos (show syB (tb f n p) = true from (by assumption)), if_neg hc]
                  rw [ht]
                  exact v_return (am_Dk d_Sg_next (k := 69) rfl) rfl (by omega) (by omega) ⟨rfl, rfl, _, _, _, rfl, fun z => absurd (show (2 : Nat) = 1 from z) (by decide)⟩
            · rcases h78 with ⟨hc, h78, e1, e2⟩ | ⟨hc, h78, e1, e2⟩
              · cases h78
              · cases h78
        · have hpl := tb_in c37 (by decide)
          refine v_aload_n (am_Dk d_Sg_next (k := 36) rfl) rfl ?_
          refine v_callV (rest := []) (As := []) (mc' := 0) (ms' := 0) (am_Dk d_Sg_next (k := 37) rfl) c_Sg_80 (Or.inl ⟨_, _, _, _, _, m7, cq_ok6⟩) (t_Sg_becomeQuotedName G (d := 2) (p := p) (by omega) m8 m9 (by omega) (by omega) m7) (by omega) (by omega) (by omega) (by simp [Value.category]) rfl (fun v92 M93 n94 h95 => ?_) (fun v92 M93 n94 h95 => ?_)
          · rcases h95 with ⟨hc, h95, e1, e2⟩ | ⟨hc, h95, e1, e2⟩
            · cases h95
              replace e1 := e1.symm
              replace e2 := e2.symm
              subst e1
              subst e2
              rw [am_uu0 (a := 1006)]
              have hq1 := tb_in hc (by decide)
              have hq2 := qd_rng (tb f n) n (n - (p + 1)) (p + 1)
              change p + 1 ≤ (qd (tb f n) n (p + 1)) at hq2
              show am_V G _ _ _ _ _ 83 [(1, .int (tb f n p)), (0, .ref 1006)] [] (am_up M 1006 (.inr (6, [.ref 1001, .ref 28, .int (nI p), .int (nI ((qd (tb f n) n (p + 1)) + 1)), .long nu, .ref nm, .int (nI (p + 1)), .int (nI (qd (tb f n) n (p + 1)))]))) nx 0 0
              refine v_goto (tgt := 105) (am_Dk d_Sg_next (k := 38) rfl) (by decide) ?_
              refine v_aload_n (am_Dk d_Sg_next (k := 48) rfl) rfl ?_
              refine v_aload_n (am_Dk d_Sg_next (k := 49) rfl) rfl ?_
              have m96 : (am_up M 1006 (.inr (6, [.ref 1001, .ref 28, .int (nI p), .int (nI ((qd (tb f n) n (p + 1)) + 1)), .long nu, .ref nm, .int (nI (p + 1)), .int (nI (qd (tb f n) n (p + 1)))]))) 1006 = some (.inr (6, [.ref 1001, .ref 28, .int (nI p), .int (nI ((qd (tb f n) n (p + 1)) + 1)), .long nu, .ref nm, .int (nI (p + 1)), .int (nI (qd (tb f n) n (p + 1)))])) := am_up_eq _ _ _
              refine v_get (am_Dk d_Sg_next (k := 50) rfl) f_Sg_21 m96 rfl ?_
              refine v_gets (v := .ref 28) (am_Dk d_Sg_next (k := 51) rfl) s_Sg_92 (by decide +kernel) ?_
              refine v_acmp_ne (rx := (some 28)) (ry := (some 28)) (tgt := 134) (am_Dk d_Sg_next (k := 52) rfl) rfl rfl (by decide) (en_K (by first | decide | exact (mkK_rng _).1) (by decide)) (fun c97 => ?_) (fun c97 => ?_)
              · exact absurd rfl c97
              · refine v_aload_n (am_Dk d_Sg_next (k := 53) rfl) rfl ?_
                refine v_get (am_Dk d_Sg_next (k := 54) rfl) f_Sg_9 m96 rfl ?_
                refine v_aload_n (am_Dk d_Sg_next (k := 55) rfl) rfl ?_
                refine v_get (am_Dk d_Sg_next (k := 56) rfl) f_Sg_95 m96 rfl ?_
                refine v_aload_n (am_Dk d_Sg_next (k := 57) rfl) rfl ?_
                refine v_get (am_Dk d_Sg_next (k := 58) rfl) f_Sg_98 m96 rfl ?_
                have m98 : (am_up M 1006 (.inr (6, [.ref 1001, .ref 28, .int (nI p), .int (nI ((qd (tb f n) n (p + 1)) + 1)), .long nu, .ref nm, .int (nI (p + 1)), .int (nI (qd (tb f n) n (p + 1)))]))) 1001 = some (.inr (1, [.ref 1002, .int (nI n)])) := (am_up_ne (show 1001 ≠ 1006 from by decide)).trans (h1)
                have m99 : (am_up M 1006 (.inr (6, [.ref 1001, .ref 28, .int (nI p), .int (nI ((qd (tb f n) n (p + 1)) + 1)), .long nu, .ref nm, .int (nI (p + 1)), .int (nI (qd (tb f n) n (p + 1)))]))) 1002 = some (.inl (0, 4096, .inl f)) := (am_up_ne (show 1002 ≠ 1006 from by decide)).trans (h2)
                refine v_callS (rest := [.ref 1006]) (As := [.ref 1001, .int (nI (p + 1)), .int (nI (qd (tb f n) n (p + 1)))]) (mc' := 0) (ms' := 0) (am_Dk d_Sg_next (k := 59) rfl) c_Sg_101 (t_Nm_spelled G (d := 5) (x := p + 1) (y := qd (tb f n) n (p + 1)) (by omega) m98 m99 (by omega) (by omega) (by omega)) (by omega) (by omega) (by omega) (by simp [Value.category]) rfl (fun v100 M101 n102 h103 => ?_) (fun _ _ _ h103 => ?_)
                rotate_left
                · exact absurd h103.1 (by simp)
                obtain ⟨h103, e104, e105⟩ := h103
                replace e104 := e104.symm
                replace e105 := e105.symm
                subst e104
                subst e105
                cases h103
                show am_V G _ _ _ _ _ 131 [(1, .int (tb f n p)), (0, .ref 1006)] [.ref (spl f n (p + 1) (qd (tb f n) n (p + 1))), .ref 1006] (am_up M 1006 (.inr (6, [.ref 1001, .ref 28, .int (nI p), .int (nI ((qd (tb f n) n (p + 1)) + 1)), .long nu, .ref nm, .int (nI (p + 1)), .int (nI (qd (tb f n) n (p + 1)))]))) nx 0 0
                refine v_goto (tgt := 153) (am_Dk d_Sg_next (k := 60) rfl) (by decide) ?_
                refine v_put (am_Dk d_Sg_next (k := 68) rfl) f_Sg_30 m96 (Nat.le_of_ble_eq_true rfl) rfl rfl ?_
                rw [am_uu0 (a := 1006)]
                have ht : tok f n a = (2, p, (qd (tb f n) n (p + 1)) + 1, 0, spl f n (p + 1) (qd (tb f n) n (p + 1))) := by rw [tok, hp, tokAt, if_neg (show ¬ cpB (tb f n p) = true from ne_true_of_eq_false (by assumption)), if_neg (show ¬ dgB (tb f n p) = true from ne_true_of_eq_false (by assumption)), if_neg (show ¬ smB (tb f n p) = true from ne_true_of_eq_false (by assumption)), if_pos (show tb f n p = 39 from (by assumption)), if_pos hc]
                rw [ht]
                exact v_return (am_Dk d_Sg_next (k := 69) rfl) rfl (by omega) (by omega) ⟨rfl, rfl, _, _, _, rfl, fun z => absurd (show (2 : Nat) = 1 from z) (by decide)⟩
            · cases h95
              replace e1 := e1.symm
              replace e2 := e2.symm
              subst e1
              subst e2
              rw [am_uu0 (a := 1006)]
              show am_V G _ _ _ _ _ 83 [(1, .int (tb f n p)), (0, .ref 1006)] [] (am_up M 1006 (.inr (6, [.ref 1001, .ref 37, .int (nI p), .int (nI (p + 1)), .long nu, .ref nm, .int nf, .int nt]))) nx 0 0
              refine v_goto (tgt := 105) (am_Dk d_Sg_next (k := 38) rfl) (by decide) ?_
              refine v_aload_n (am_Dk d_Sg_next (k := 48) rfl) rfl ?_
              refine v_aload_n (am_Dk d_Sg_next (k := 49) rfl) rfl ?_
              have m106 : (am_up M 1006 (.inr (6, [.ref 1001, .ref 37, .int (nI p), .int (nI (p + 1)), .long nu, .ref nm, .int nf, .int nt]))) 1006 = some (.inr (6, [.ref 1001, .ref 37, .int (nI p), .int (nI (p + 1)), .long nu, .ref nm, .int nf, .int nt])) := am_up_eq _ _ _
              refine v_get (am_Dk d_Sg_next (k := 50) rfl) f_Sg_21 m106 rfl ?_
              refine v_gets (v := .ref 28) (am_Dk d_Sg_next (k := 51) rfl) s_Sg_92 (by decide +kernel) ?_
              refine v_acmp_ne (rx := (some 37)) (ry := (some 28)) (tgt := 134) (am_Dk d_Sg_next (k := 52) rfl) rfl rfl (by decide) (en_K (by first | decide | exact (mkK_rng _).1) (by decide)) (fun c107 => ?_) (fun c107 => ?_)
              · refine v_aload_n (am_Dk d_Sg_next (k := 61) rfl) rfl ?_
                refine v_get (am_Dk d_Sg_next (k := 62) rfl) f_Sg_21 m106 rfl ?_
                refine v_gets (v := .ref 33) (am_Dk d_Sg_next (k := 63) rfl) s_Sg_105 (by decide +kernel) ?_
                refine v_acmp_ne (rx := (some 37)) (ry := (some 33)) (tgt := 150) (am_Dk d_Sg_next (k := 64) rfl) rfl rfl (by decide) (en_K (by first | decide | exact (mkK_rng _).1) (by decide)) (fun c108 => ?_) (fun c108 => ?_)
                · refine v_gets (v := .ref 0) (am_Dk d_Sg_next (k := 67) rfl) s_Sg_24 (by decide +kernel) ?_
                  refine v_put (am_Dk d_Sg_next (k := 68) rfl) f_Sg_30 m106 (Nat.le_of_ble_eq_true rfl) rfl rfl ?_
                  rw [am_uu0 (a := 1006)]
                  have ht : tok f n a = (11, p, p + 1, 0, 0) := by rw [tok, hp, tokAt, if_neg (show ¬ cpB (tb f n p) = true from ne_true_of_eq_false (by assumption)), if_neg (show ¬ dgB (tb f n p) = true from ne_true_of_eq_false (by assumption)), if_neg (show ¬ smB (tb f n p) = true from ne_true_of_eq_false (by assumption)), if_pos (show tb f n p = 39 from (by assumption)), if_neg hc]
                  rw [ht]
                  exact v_return (am_Dk d_Sg_next (k := 69) rfl) rfl (by omega) (by omega) ⟨rfl, rfl, _, _, _, rfl, fun z => absurd (show (11 : Nat) = 1 from z) (by decide)⟩
                · exact absurd c108 (by decide)
              · exact absurd c107 (by decide)
          · rcases h95 with ⟨hc, h95, e1, e2⟩ | ⟨hc, h95, e1, e2⟩
            · cases h95
            · cases h95
      · have Nc36 := bi1 c36
        have hpl := hcl.2.2.1 Nc36
        have hq1 : p ≤ plt (tb f n) n p ∧ plt (tb f n) n p ≤ n := plt_rng (tb f n) n (n - p) p (by omega)
        refine v_aload_n (am_Dk d_Sg_next (k := 28) rfl) rfl ?_
        refine v_aload_n (am_Dk d_Sg_next (k := 29) rfl) rfl ?_
        refine v_callV (rest := [.ref 1006]) (As := []) (mc' := 0) (ms' := 0) (am_Dk d_Sg_next (k := 30) rfl) c_Sg_60 (Or.inl ⟨_, _, _, _, _, m7, cq_ok6⟩) (t_Sg_pastLetters G (d := 1) (pl := 0) (a := p) (by omega) m8 m9 (by omega) (by omega) m7) (by omega) (by omega) (by omega) (by simp [Value.category]) rfl (fun v109 M110 n111 h112 => ?_) (fun _ _ _ h112 => ?_)
        rotate_left
        · exact absurd h112.1 (by simp)
        obtain ⟨h112, e113, e114⟩ := h112
        replace e113 := e113.symm
        replace e114 := e114.symm
        subst e113
        subst e114
        cases h112
        show am_V G _ _ _ _ _ 67 [(1, .int (tb f n p)), (0, .ref 1006)] [.int (nI (plt (tb f n) n p)), .ref 1006] (am_up M 1006 (.inr (6, [.ref 1001, .ref kd, .int (nI p), .int (nI a), .long nu, .ref nm, .int nf, .int nt]))) nx 0 0
        refine v_callV (rest := []) (As := [.int (nI (plt (tb f n) n p))]) (mc' := 0) (ms' := 0) (am_Dk d_Sg_next (k := 31) rfl) c_Sg_76 (Or.inl ⟨_, _, _, _, _, m7, cq_ok6⟩) (t_Sg_becomeName G (d := 0) (by omega) m7) (by omega) (by omega) (by omega) (by simp [Value.category]) rfl (fun v115 M116 n117 h118 => ?_) (fun _ _ _ h118 => ?_)
        rotate_left
        · exact absurd h118.1 (by simp)
        obtain ⟨h118, e119, e120⟩ := h118
        replace e119 := e119.symm
        replace e120 := e120.symm
        subst e119
        subst e120
        cases h118
        rw [am_uu0 (a := 1006)]
        show am_V G _ _ _ _ _ 70 [(1, .int (tb f n p)), (0, .ref 1006)] [] (am_up M 1006 (.inr (6, [.ref 1001, .ref 28, .int (nI p), .int (nI (plt (tb f n) n p)), .long nu, .ref nm, .int (nI p), .int (nI (plt (tb f n) n p))]))) nx 0 0
        refine v_goto (tgt := 105) (am_Dk d_Sg_next (k := 32) rfl) (by decide) ?_
        refine v_aload_n (am_Dk d_Sg_next (k := 48) rfl) rfl ?_
        refine v_aload_n (am_Dk d_Sg_next (k := 49) rfl) rfl ?_
        have m121 : (am_up M 1006 (.inr (6, [.ref 1001, .ref 28, .int (nI p), .int (nI (plt (tb f n) n p)), .long nu, .ref nm, .int (nI p), .int (nI (plt (tb f n) n p))]))) 1006 = some (.inr (6, [.ref 1001, .ref 28, .int (nI p), .int (nI (plt (tb f n) n p)), .long nu, .ref nm, .int (nI p), .int (nI (plt (tb f n) n p))])) := am_up_eq _ _ _
        refine v_get (am_Dk d_Sg_next (k := 50) rfl) f_Sg_21 m121 rfl ?_
        refine v_gets (v := .ref 28) (am_Dk d_Sg_next (k := 51) rfl) s_Sg_92 (by decide +kernel) ?_
        refine v_acmp_ne (rx := (some 28)) (ry := (some 28)) (tgt := 134) (am_Dk d_Sg_next (k := 52) rfl) rfl rfl (by decide) (en_K (by first | decide | exact (mkK_rng _).1) (by decide)) (fun c122 => ?_) (fun c122 => ?_)
        · exact absurd rfl c122
        · refine v_aload_n (am_Dk d_Sg_next (k := 53) rfl) rfl ?_
          refine v_get (am_Dk d_Sg_next (k := 54) rfl) f_Sg_9 m121 rfl ?_
          refine v_aload_n (am_Dk d_Sg_next (k := 55) rfl) rfl ?_
          refine v_get (am_Dk d_Sg_next (k := 56) rfl) f_Sg_95 m121 rfl ?_
          refine v_aload_n (am_Dk d_Sg_next (k := 57) rfl) rfl ?_
          refine v_get (am_Dk d_Sg_next (k := 58) rfl) f_Sg_98 m121 rfl ?_
          have m123 : (am_up M 1006 (.inr (6, [.ref 1001, .ref 28, .int (nI p), .int (nI (plt (tb f n) n p)), .long nu, .ref nm, .int (nI p), .int (nI (plt (tb f n) n p))]))) 1001 = some (.inr (1, [.ref 1002, .int (nI n)])) := (am_up_ne (show 1001 ≠ 1006 from by decide)).trans (h1)
          have m124 : (am_up M 1006 (.inr (6, [.ref 1001, .ref 28, .int (nI p), .int (nI (plt (tb f n) n p)), .long nu, .ref nm, .int (nI p), .int (nI (plt (tb f n) n p))]))) 1002 = some (.inl (0, 4096, .inl f)) := (am_up_ne (show 1002 ≠ 1006 from by decide)).trans (h2)
          refine v_callS (rest := [.ref 1006]) (As := [.ref 1001, .int (nI p), .int (nI (plt (tb f n) n p))]) (mc' := 0) (ms' := 0) (am_Dk d_Sg_next (k := 59) rfl) c_Sg_101 (t_Nm_spelled G (d := 5) (x := p) (y := plt (tb f n) n p) (by omega) m123 m124 (by omega) (by omega) (by omega)) (by omega) (by omega) (by omega) (by simp [Value.category]) rfl (fun v125 M126 n127 h128 => ?_) (fun _ _ _ h128 => ?_)
          rotate_left
          · exact absurd h128.1 (by simp)
          obtain ⟨h128, e129, e130⟩ := h128
          replace e129 := e129.symm
          replace e130 := e130.symm
          subst e129
          subst e130
          cases h128
          show am_V G _ _ _ _ _ 131 [(1, .int (tb f n p)), (0, .ref 1006)] [.ref (spl f n p (plt (tb f n) n p)), .ref 1006] (am_up M 1006 (.inr (6, [.ref 1001, .ref 28, .int (nI p), .int (nI (plt (tb f n) n p)), .long nu, .ref nm, .int (nI p), .int (nI (plt (tb f n) n p))]))) nx 0 0
          refine v_goto (tgt := 153) (am_Dk d_Sg_next (k := 60) rfl) (by decide) ?_
          refine v_put (am_Dk d_Sg_next (k := 68) rfl) f_Sg_30 m121 (Nat.le_of_ble_eq_true rfl) rfl rfl ?_
          rw [am_uu0 (a := 1006)]
          have ht : tok f n a = (2, p, plt (tb f n) n p, 0, spl f n p (plt (tb f n) n p)) := by rw [tok, hp, tokAt, if_neg (show ¬ cpB (tb f n p) = true from ne_true_of_eq_false (by assumption)), if_neg (show ¬ dgB (tb f n p) = true from ne_true_of_eq_false (by assumption)), if_pos (show smB (tb f n p) = true from (by assumption))]
          rw [ht]
          exact v_return (am_Dk d_Sg_next (k := 69) rfl) rfl (by omega) (by omega) ⟨rfl, rfl, _, _, _, rfl, fun z => absurd (show (2 : Nat) = 1 from z) (by decide)⟩
    · have Nc29 := bi1 c29
      have hpl := hcl.2.1 Nc29
      have hq1 : p ≤ (dv (tb f n) n p).1 ∧ (dv (tb f n) n p).1 ≤ n := dv_rng (tb f n) n (n - p) p 0 (by omega)
      refine v_aload_n (am_Dk d_Sg_next (k := 22) rfl) rfl ?_
      refine v_callV (rest := []) (As := []) (mc' := 0) (ms' := 0) (am_Dk d_Sg_next (k := 23) rfl) c_Sg_70 (Or.inl ⟨_, _, _, _, _, m7, cq_ok6⟩) (t_Sg_becomeInteger G (d := 1) (p := p) (by omega) m8 m9 (by omega) (by omega) m7) (by omega) (by omega) (by omega) (by simp [Value.category]) rfl (fun v131 M132 n133 h134 => ?_) (fun v131 M132 n133 h134 => ?_)
      · rcases h134 with ⟨hc, h134, e1, e2⟩ | ⟨hc, h134, e1, e2⟩
        · cases h134
          replace e1 := e1.symm
          replace e2 := e2.symm
          subst e1
          subst e2
          rw [am_uu0 (a := 1006)]
          show am_V G _ _ _ _ _ 52 [(1, .int (tb f n p)), (0, .ref 1006)] [] (am_up M 1006 (.inr (6, [.ref 1001, .ref 37, .int (nI p), .int (nI ((dv (tb f n) n p).1)), .long (dv (tb f n) n p).2, .ref nm, .int nf, .int nt]))) nx 0 0
          refine v_goto (tgt := 105) (am_Dk d_Sg_next (k := 24) rfl) (by decide) ?_
          refine v_aload_n (am_Dk d_Sg_next (k := 48) rfl) rfl ?_
          refine v_aload_n (am_Dk d_Sg_next (k := 49) rfl) rfl ?_
          have m135 : (am_up M 1006 (.inr (6, [.ref 1001, .ref 37, .int (nI p), .int (nI ((dv (tb f n) n p).1)), .long (dv (tb f n) n p).2, .ref nm, .int nf, .int nt]))) 1006 = some (.inr (6, [.ref 1001, .ref 37, .int (nI p), .int (nI ((dv (tb f n) n p).1)), .long (dv (tb f n) n p).2, .ref nm, .int nf, .int nt])) := am_up_eq _ _ _
          refine v_get (am_Dk d_Sg_next (k := 50) rfl) f_Sg_21 m135 rfl ?_
          refine v_gets (v := .ref 28) (am_Dk d_Sg_next (k := 51) rfl) s_Sg_92 (by decide +kernel) ?_
          refine v_acmp_ne (rx := (some 37)) (ry := (some 28)) (tgt := 134) (am_Dk d_Sg_next (k := 52) rfl) rfl rfl (by decide) (en_K (by first | decide | exact (mkK_rng _).1) (by decide)) (fun c136 => ?_) (fun c136 => ?_)
          · refine v_aload_n (am_Dk d_Sg_next (k := 61) rfl) rfl ?_
            refine v_get (am_Dk d_Sg_next (k := 62) rfl) f_Sg_21 m135 rfl ?_
            refine v_gets (v := .ref 33) (am_Dk d_Sg_next (k := 63) rfl) s_Sg_105 (by decide +kernel) ?_
            refine v_acmp_ne (rx := (some 37)) (ry := (some 33)) (tgt := 150) (am_Dk d_Sg_next (k := 64) rfl) rfl rfl (by decide) (en_K (by first | decide | exact (mkK_rng _).1) (by decide)) (fun c137 => ?_) (fun c137 => ?_)
            · refine v_gets (v := .ref 0) (am_Dk d_Sg_next (k := 67) rfl) s_Sg_24 (by decide +kernel) ?_
              refine v_put (am_Dk d_Sg_next (k := 68) rfl) f_Sg_30 m135 (Nat.le_of_ble_eq_true rfl) rfl rfl ?_
              rw [am_uu0 (a := 1006)]
              have ht : tok f n a = (11, p, (dv (tb f n) n p).1, 0, 0) := by rw [tok, hp, tokAt, if_neg (show ¬ cpB (tb f n p) = true from ne_true_of_eq_false (by assumption)), if_pos (show dgB (tb f n p) = true from (by assumption)), if_pos hc]
              rw [ht]
              exact v_return (am_Dk d_Sg_next (k := 69) rfl) rfl (by omega) (by omega) ⟨rfl, rfl, _, _, _, rfl, fun z => absurd (show (11 : Nat) = 1 from z) (by decide)⟩
            · exact absurd c137 (by decide)
          · exact absurd c136 (by decide)
        · cases h134
          replace e1 := e1.symm
          replace e2 := e2.symm
          subst e1
          subst e2
          rw [am_uu0 (a := 1006)]
          show am_V G _ _ _ _ _ 52 [(1, .int (tb f n p)), (0, .ref 1006)] [] (am_up M 1006 (.inr (6, [.ref 1001, .ref 27, .int (nI p), .int (nI ((dv (tb f n) n p).1)), .long (dv (tb f n) n p).2, .ref nm, .int nf, .int nt]))) nx 0 0
          refine v_goto (tgt := 105) (am_Dk d_Sg_next (k := 24) rfl) (by decide) ?_
          refine v_aload_n (am_Dk d_Sg_next (k := 48) rfl) rfl ?_
          refine v_aload_n (am_Dk d_Sg_next (k := 49) rfl) rfl ?_
          have m138 : (am_up M 1006 (.inr (6, [.ref 1001, .ref 27, .int (nI p), .int (nI ((dv (tb f n) n p).1)), .long (dv (tb f n) n p).2, .ref nm, .int nf, .int nt]))) 1006 = some (.inr (6, [.ref 1001, .ref 27, .int (nI p), .int (nI ((dv (tb f n) n p).1)), .long (dv (tb f n) n p).2, .ref nm, .int nf, .int nt])) := am_up_eq _ _ _
          refine v_get (am_Dk d_Sg_next (k := 50) rfl) f_Sg_21 m138 rfl ?_
          refine v_gets (v := .ref 28) (am_Dk d_Sg_next (k := 51) rfl) s_Sg_92 (by decide +kernel) ?_
          refine v_acmp_ne (rx := (some 27)) (ry := (some 28)) (tgt := 134) (am_Dk d_Sg_next (k := 52) rfl) rfl rfl (by decide) (en_K (by first | decide | exact (mkK_rng _).1) (by decide)) (fun c139 => ?_) (fun c139 => ?_)
          · refine v_aload_n (am_Dk d_Sg_next (k := 61) rfl) rfl ?_
            refine v_get (am_Dk d_Sg_next (k := 62) rfl) f_Sg_21 m138 rfl ?_
            refine v_gets (v := .ref 33) (am_Dk d_Sg_next (k := 63) rfl) s_Sg_105 (by decide +kernel) ?_
            refine v_acmp_ne (rx := (some 27)) (ry := (some 33)) (tgt := 150) (am_Dk d_Sg_next (k := 64) rfl) rfl rfl (by decide) (en_K (by first | decide | exact (mkK_rng _).1) (by decide)) (fun c140 => ?_) (fun c140 => ?_)
            · refine v_gets (v := .ref 0) (am_Dk d_Sg_next (k := 67) rfl) s_Sg_24 (by decide +kernel) ?_
              refine v_put (am_Dk d_Sg_next (k := 68) rfl) f_Sg_30 m138 (Nat.le_of_ble_eq_true rfl) rfl rfl ?_
              rw [am_uu0 (a := 1006)]
              have ht : tok f n a = (1, p, (dv (tb f n) n p).1, ((dv (tb f n) n p).2), 0) := by rw [tok, hp, tokAt, if_neg (show ¬ cpB (tb f n p) = true from ne_true_of_eq_false (by assumption)), if_pos (show dgB (tb f n p) = true from (by assumption)), if_neg hc]
              rw [ht]
              exact v_return (am_Dk d_Sg_next (k := 69) rfl) rfl (by omega) (by omega) ⟨rfl, rfl, _, _, _, rfl, fun _ => rfl⟩
            · exact absurd c140 (by decide)
          · exact absurd c139 (by decide)
      · rcases h134 with ⟨hc, h134, e1, e2⟩ | ⟨hc, h134, e1, e2⟩
        · cases h134
        · cases h134
  · have Nc22 := bi1 c22
    have hpl := hcl.1 Nc22
    have hq1 : p ≤ plt (tb f n) n p ∧ plt (tb f n) n p ≤ n := plt_rng (tb f n) n (n - p) p (by omega)
    refine v_aload_n (am_Dk d_Sg_next (k := 13) rfl) rfl ?_
    refine v_gets (v := .ref 26) (am_Dk d_Sg_next (k := 14) rfl) s_Sg_57 (by decide +kernel) ?_
    refine v_aload_n (am_Dk d_Sg_next (k := 15) rfl) rfl ?_
    refine v_callV (rest := [.ref 26, .ref 1006]) (As := []) (mc' := 0) (ms' := 0) (am_Dk d_Sg_next (k := 16) rfl) c_Sg_60 (Or.inl ⟨_, _, _, _, _, m7, cq_ok6⟩) (t_Sg_pastLetters G (d := 1) (pl := 0) (a := p) (by omega) m8 m9 (by omega) (by omega) m7) (by omega) (by omega) (by omega) (by simp [Value.category]) rfl (fun v141 M142 n143 h144 => ?_) (fun _ _ _ h144 => ?_)
    rotate_left
    · exact absurd h144.1 (by simp)
    obtain ⟨h144, e145, e146⟩ := h144
    replace e145 := e145.symm
    replace e146 := e146.symm
    subst e145
    subst e146
    cases h144
    show am_V G _ _ _ _ _ 35 [(1, .int (tb f n p)), (0, .ref 1006)] [.int (nI (plt (tb f n) n p)), .ref 26, .ref 1006] (am_up M 1006 (.inr (6, [.ref 1001, .ref kd, .int (nI p), .int (nI a), .long nu, .ref nm, .int nf, .int nt]))) nx 0 0
    refine v_callV (rest := []) (As := [.ref 26, .int (nI (plt (tb f n) n p))]) (mc' := 0) (ms' := 0) (am_Dk d_Sg_next (k := 17) rfl) c_Sg_63 (Or.inl ⟨_, _, _, _, _, m7, cq_ok6⟩) (t_Sg_become G (d := 0) (by omega) m7) (by omega) (by omega) (by omega) (by simp [Value.category]) rfl (fun v147 M148 n149 h150 => ?_) (fun _ _ _ h150 => ?_)
    rotate_left
    · exact absurd h150.1 (by simp)
    obtain ⟨h150, e151, e152⟩ := h150
    replace e151 := e151.symm
    replace e152 := e152.symm
    subst e151
    subst e152
    cases h150
    rw [am_uu0 (a := 1006)]
    show am_V G _ _ _ _ _ 38 [(1, .int (tb f n p)), (0, .ref 1006)] [] (am_up M 1006 (.inr (6, [.ref 1001, .ref 26, .int (nI p), .int (nI (plt (tb f n) n p)), .long nu, .ref nm, .int nf, .int nt]))) nx 0 0
    refine v_goto (tgt := 105) (am_Dk d_Sg_next (k := 18) rfl) (by decide) ?_
    refine v_aload_n (am_Dk d_Sg_next (k := 48) rfl) rfl ?_
    refine v_aload_n (am_Dk d_Sg_next (k := 49) rfl) rfl ?_
    have m153 : (am_up M 1006 (.inr (6, [.ref 1001, .ref 26, .int (nI p), .int (nI (plt (tb f n) n p)), .long nu, .ref nm, .int nf, .int nt]))) 1006 = some (.inr (6, [.ref 1001, .ref 26, .int (nI p), .int (nI (plt (tb f n) n p)), .long nu, .ref nm, .int nf, .int nt])) := am_up_eq _ _ _
    refine v_get (am_Dk d_Sg_next (k := 50) rfl) f_Sg_21 m153 rfl ?_
    refine v_gets (v := .ref 28) (am_Dk d_Sg_next (k := 51) rfl) s_Sg_92 (by decide +kernel) ?_
    refine v_acmp_ne (rx := (some 26)) (ry := (some 28)) (tgt := 134) (am_Dk d_Sg_next (k := 52) rfl) rfl rfl (by decide) (en_K (by first | decide | exact (mkK_rng _).1) (by decide)) (fun c154 => ?_) (fun c154 => ?_)
    · refine v_aload_n (am_Dk d_Sg_next (k := 61) rfl) rfl ?_
      refine v_get (am_Dk d_Sg_next (k := 62) rfl) f_Sg_21 m153 rfl ?_
      refine v_gets (v := .ref 33) (am_Dk d_Sg_next (k := 63) rfl) s_Sg_105 (by decide +kernel) ?_
      refine v_acmp_ne (rx := (some 26)) (ry := (some 33)) (tgt := 150) (am_Dk d_Sg_next (k := 64) rfl) rfl rfl (by decide) (en_K (by first | decide | exact (mkK_rng _).1) (by decide)) (fun c155 => ?_) (fun c155 => ?_)
      · refine v_gets (v := .ref 0) (am_Dk d_Sg_next (k := 67) rfl) s_Sg_24 (by decide +kernel) ?_
        refine v_put (am_Dk d_Sg_next (k := 68) rfl) f_Sg_30 m153 (Nat.le_of_ble_eq_true rfl) rfl rfl ?_
        rw [am_uu0 (a := 1006)]
        have ht : tok f n a = (0, p, plt (tb f n) n p, 0, 0) := by rw [tok, hp, tokAt, if_pos (show cpB (tb f n p) = true from (by assumption))]
        rw [ht]
        exact v_return (am_Dk d_Sg_next (k := 69) rfl) rfl (by omega) (by omega) ⟨rfl, rfl, _, _, _, rfl, fun z => absurd (show (0 : Nat) = 1 from z) (by decide)⟩
      · exact absurd c155 (by decide)
    · exact absurd c154 (by decide)
set_option maxRecDepth 20000 in
theorem t_Sg_first (G : am_G) {d nx : Nat} (hd : 7 ≤ d) {M : am_M} {f : Nat → Int32} {n : Nat} (h1 : M 1001 = some (.inr (1, [.ref 1002, .int (nI n)]))) (h2 : M 1002 = some (.inl (0, 4096, .inl f))) (hn : n ≤ 4096) {kd nm : Nat} {pl af nf nt : Int32} {nu : Int64} (h6 : M 1006 = some (.inr (6, [.ref 1001, .ref kd, .int pl, .int af, .long nu, .ref nm, .int nf, .int nt]))) : am_Tr G m_Sg_first d 0 0 [.ref 1006] M nx (fun r M1 nx1 => r = .inl none ∧ nx1 = nx ∧ ∃ nu1 nf1 nt1, M1 = am_up M 1006 (.inr (6, [.ref 1001, .ref (26 + (tok f n 0).1), .int (nI (tok f n 0).2.1), .int (nI (tok f n 0).2.2.1), .long nu1, .ref ((tok f n 0).2.2.2.2), .int nf1, .int nt1])) ∧ ((tok f n 0).1 = 1 → nu1 = (tok f n 0).2.2.2.1)) := by
  refine am_TrOf (by decide) (Nat.le_of_ble_eq_true rfl) ?_
  show am_V G _ _ _ _ _ 0 [(0, .ref 1006)] [] M nx 0 0
  refine v_aload_n (am_Dk d_Sg_first (k := 0) rfl) rfl ?_
  refine v_iconst (v := 0) (am_Dk d_Sg_first (k := 1) rfl) (by decide) ?_
  refine v_put (am_Dk d_Sg_first (k := 2) rfl) f_Sg_33 h6 (Nat.le_of_ble_eq_true rfl) rfl rfl ?_
  refine v_aload_n (am_Dk d_Sg_first (k := 3) rfl) rfl ?_
  have m1 : (am_up M 1006 (.inr (6, [.ref 1001, .ref kd, .int pl, .int 0, .long nu, .ref nm, .int nf, .int nt]))) 1001 = some (.inr (1, [.ref 1002, .int (nI n)])) := (am_up_ne (show 1001 ≠ 1006 from by decide)).trans (h1)
  have m2 : (am_up M 1006 (.inr (6, [.ref 1001, .ref kd, .int pl, .int 0, .long nu, .ref nm, .int nf, .int nt]))) 1002 = some (.inl (0, 4096, .inl f)) := (am_up_ne (show 1002 ≠ 1006 from by decide)).trans (h2)
  have m3 : (am_up M 1006 (.inr (6, [.ref 1001, .ref kd, .int pl, .int 0, .long nu, .ref nm, .int nf, .int nt]))) 1006 = some (.inr (6, [.ref 1001, .ref kd, .int pl, .int 0, .long nu, .ref nm, .int nf, .int nt])) := am_up_eq _ _ _
  refine v_callV (rest := []) (As := []) (mc' := 0) (ms' := 0) (am_Dk d_Sg_first (k := 4) rfl) c_Sg_37 (Or.inl ⟨_, _, _, _, _, m3, cq_ok6⟩) (t_Sg_next G (d := 6) (a := 0) (by omega) m1 m2 (by omega) (by omega) m3) (by omega) (by omega) (by omega) (by simp [Value.category]) rfl (fun v4 M5 n6 h7 => ?_) (fun _ _ _ h7 => ?_)
  rotate_left
  · exact absurd h7.1 (by simp)
  obtain ⟨h7, e12, nu8, nf9, nt10, e11, hv13⟩ := h7
  replace e11 := e11.symm
  replace e12 := e12.symm
  subst e11
  subst e12
  cases h7
  rw [am_uu0 (a := 1006)]
  show am_V G _ _ _ _ _ 9 [(0, .ref 1006)] [] (am_up M 1006 (.inr (6, [.ref 1001, .ref (26 + (tok f n 0).1), .int (nI (tok f n 0).2.1), .int (nI (tok f n 0).2.2.1), .long nu8, .ref ((tok f n 0).2.2.2.2), .int nf9, .int nt10]))) nx 0 0
  exact v_return (am_Dk d_Sg_first (k := 5) rfl) rfl (by omega) (by omega) ⟨rfl, rfl, _, _, _, rfl, by assumption⟩
