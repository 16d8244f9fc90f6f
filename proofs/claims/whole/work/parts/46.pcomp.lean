/-! THE REFERENCE'S PARSER: COMPOUNDS (mine; rows laid by the walker) -/
theorem RS_o1213 {LU : Nat → (Nat → Int32) → Option Int64} {M : am_M} {sz pt ns tx vb e1 e2 : Nat} {W : Gho} {On : Nat → Nat} {Vx : Nat → Option (Nat × (Nat → Int32))} (h : RS LU M sz pt ns tx vb e1 e2 W On Vx) : M 1213 = some (.inr (10, [.ref 1214, .ref 1215, .ref 1216, .ref 1217, .ref 1218, .ref 1219, .int (nI sz), .int (nI pt)])) := by
  obtain ⟨A, T, F, Va, h⟩ := h
  exact h.1.1
theorem RS_o1220 {LU : Nat → (Nat → Int32) → Option Int64} {M : am_M} {sz pt ns tx vb e1 e2 : Nat} {W : Gho} {On : Nat → Nat} {Vx : Nat → Option (Nat × (Nat → Int32))} (h : RS LU M sz pt ns tx vb e1 e2 W On Vx) : M 1220 = some (.inr (11, [.ref 1221, .ref 1222, .ref 1223, .ref 1224, .int (nI ns), .int (nI tx)])) := by
  obtain ⟨A, T, F, Va, h⟩ := h
  exact h.2.1.1
theorem tkR_eq {k : Nat} {t : Int32} (h : tkR k t) (hk : k < 12) : (t = 10 ↔ k = 7) ∧ (t = 5 ↔ k = 4) ∧ (t = 7 ↔ k = 6) ∧ (t = 11 ↔ k = 8) ∧ (t = 0 ↔ k = 9) ∧ (t = 13 ↔ k = 10) ∧ (t = 2 ↔ k = 1) ∧ (t = 3 ↔ k = 2) := by
  obtain ⟨h1, h2⟩ := h
  rcases (show k = 0 ∨ k = 1 ∨ k = 2 ∨ k = 3 ∨ k = 4 ∨ k = 5 ∨ k = 6 ∨ k = 7 ∨ k = 8 ∨ k = 9 ∨ k = 10 ∨ k = 11 by omega) with h | h | h | h | h | h | h | h | h | h | h | h
  all_goals subst h
  all_goals first
    | (have := h1 (by decide); subst this; decide)
    | (rcases h2 (by decide) with h | h | h <;> subst h <;> decide)
theorem cmp_w {c o9 : Nat} {W : Gho} {y : Nat → Nat} {f : Nat → Int32} {n i : Nat} {w fi : Opd} (hc : c = i + 1) (hw : OpN f n W (y i) w) (hf : 1 ≤ i → OpN f n W (y 0) fi) : (if c = 1 then rk1 o9 (W.1 (y 0)).1 (W.1 (y 0)).2 else if c = 2 then rk2 o9 (W.1 (y 0)).1 (W.1 (y 0)).2 (W.1 (y 1)).1 (W.1 (y 1)).2 else (2, 0)) = (if i = 0 then rk1 o9 w.1 w.2.1 else if i = 1 then rk2 o9 fi.1 fi.2.1 w.1 w.2.1 else (2, 0)) := by
  by_cases h0 : i = 0
  · subst h0
    rw [if_pos hc, if_pos rfl, hw.1]
  · rw [if_neg (by omega), if_neg h0]
    by_cases h1 : i = 1
    · subst h1
      rw [if_pos hc, if_pos rfl, hw.1, (hf (Nat.le_refl _)).1]
    · rw [if_neg (by omega), if_neg h1]
set_option maxRecDepth 20000 in
theorem t_MR_compound (G : am_G) {d nx : Nat} (hd : 6 ≤ d) {M : am_M} {f : Nat → Int32} {n : Nat} {LU : Nat → (Nat → Int32) → Option Int64} {lu : Nat → Nat → Option Int64} (hb : tbB f) (hn : n ≤ 4096) {mo : Int32} {a o tp : Nat} {S : Nat → Int32} {rk : Int32} {sz pt ns tx vb e1 e2 : Nat} {W : Gho} {On : Nat → Nat} {Vx : Nat → Option (Nat × (Nat → Int32))} (h : PS f n LU M a (o + 1) tp S rk sz pt ns tx vb e1 e2 W On Vx) (ho : o < 100) (hk2 : (tok f n a).1 = 2) (h40 : tb f n (tok f n a).2.2.1 = 40) {d0 : Nat} (IH : TermC G f n LU lu (o + 1) d0) (hd0 : d0 + 1 ≤ d) : am_Tr G m_MR_compound d 0 0 [.ref 1225] M nx (RQ f n LU lu M nx o mo a (o + 1) tp S sz pt ns W On (fun _ _ => True) (fun w => TBad f n lu o mo a w)) := by
  refine am_TrOf (by decide) (Nat.le_of_ble_eq_true rfl) ?_
  show am_V G _ _ _ _ _ 0 [(0, .ref 1225)] [] M nx 0 0
  have hPS := h
  obtain ⟨hpb, hm, hR, hS, ⟨kc, hkc⟩, tk, nu, l, g, kn, hr, hsc, hw, hg⟩ := h
  replace hr : M 1225 = some (.inr (12, [.ref 1226, .ref 1227, .ref 1228, .ref 1213, .ref 1220, .ref 1212, .int (nI n), .int (nI ((tok f n a).2.1)), .int (nI ((tok f n a).2.2.1)), .int tk, .int (nI (o + 1)), .long nu, .ref 1229, .int (nI l), .ref 1230, .int (nI tp), .int (-1), .ref 1231, .int (nI vb), .int kn, .int rk, .ref 1232])) := hr
  obtain ⟨pb_0, pb_1, pb_2, pb_3, pb_4, pb_5, pb_6, pb_7, pb_8, pb_9⟩ := hpb
  have k_hsc := tok_ok f pb_0
  have p_hsc := tok_pos f pb_0
  have l_hsc := hsc.2.2.1
  have fr0 : pf_fr M M := fun i hi => rfl
  obtain ⟨hl2, hsp⟩ := hsc.2.2.2.2 hk2
  have hop := tok_op.mpr h40
  have hp9 := p_hsc (by omega)
  by_cases ho1 : o + 1 < 100
  rotate_left
  · refine v_aload_n (am_Dk d_MR_compound (k := 0) rfl) rfl ?_
    obtain ⟨⟨Kd1, Nm1, Fi1, Ma1, Pa1, Nu1⟩, T1, F1, Va1, hX1⟩ := RS_fr (M1 := M) hR (fun i hi => rfl)
    refine v_callV (rest := []) (As := []) (mc' := 0) (ms' := 0) (am_Dk d_MR_compound (k := 1) rfl) c_MR_212 (Or.inl ⟨_, _, _, _, _, hr, cq_ok12⟩) (t_MR_name G (d := 2) (le := 0) (l := l) (by omega) hr hw hg (by omega) hX1 (by omega) (by omega)) (by omega) (by omega) (by omega) (by simp [Value.category]) rfl (fun v2 M3 n4 h5 => ?_) (fun _ _ _ h5 => ?_)
    rotate_left
    · obtain ⟨_, _, _, _, _, _, hx9, _⟩ := h5; cases hx9
    obtain ⟨k6, ns7, tx8, On9, T9, F9, h5, ex9, q101, q102, q103, q104, q105, q106, q107⟩ := h5
    cases h5
    replace ex9 := ex9.symm
    subst ex9
    have b11 : M3 1225 = some (.inr (12, [.ref 1226, .ref 1227, .ref 1228, .ref 1213, .ref 1220, .ref 1212, .int (nI n), .int (nI ((tok f n a).2.1)), .int (nI ((tok f n a).2.2.1)), .int tk, .int (nI (o + 1)), .long nu, .ref 1229, .int (nI l), .ref 1230, .int (nI tp), .int (-1), .ref 1231, .int (nI vb), .int kn, .int rk, .ref 1232])) := (q107 1225 (by omega)).trans (hr)
    have b12 : M3 1229 = some (.inl (0, 4096, .inl g)) := (q107 1229 (by omega)).trans (hw)
    have b13 : M3 1230 = some (.inl (1, 4200, .inl S)) := (q107 1230 (by omega)).trans (hS)
    have b14 : M3 1232 = some (.inl (0, 4096, .inl kc)) := (q107 1232 (by omega)).trans (hkc)
    have hm15 : mb f M3 := mb_fr hm (fun i hi => (q107 i (by omega)).trans (rfl))
    have fr16 : pf_fr M M3 := fun i hi => (q107 i (by omega)).trans ((fr0 i hi))
    have hR17 : RS LU M3 sz pt ns7 tx8 vb e1 e2 W On9 Vx := ⟨_, _, _, _, q101⟩
    show am_V G _ _ _ _ _ 4 [(0, .ref 1225)] [.int (nI k6)] M3 nx 0 0
    refine v_istore_n (L1 := [(1, .int (nI k6)), (0, .ref 1225)]) (am_Dk d_MR_compound (k := 2) rfl) (by decide) rfl ?_
    refine v_aload_n (am_Dk d_MR_compound (k := 3) rfl) rfl ?_
    refine v_callV (rest := []) (As := []) (mc' := 0) (ms' := 0) (am_Dk d_MR_compound (k := 4) rfl) c_MR_113 (Or.inl ⟨_, _, _, _, _, b11, cq_ok12⟩) (t_MR_scan G (d := 5) (be := 0) (a := (tok f n a).2.2.1) (by omega) b11 hm15.1 hn hb (by omega) b12 hg) (by omega) (by omega) (by omega) (by simp [Value.category]) rfl (fun v18 M19 n20 h21 => ?_) (fun _ _ _ h21 => ?_)
    rotate_left
    · obtain ⟨_, _, _, _, hx9, _⟩ := h21; cases hx9
    obtain ⟨tk22, nu23, l24, g25, h21, ex9, e26, hs27, hg28⟩ := h21
    replace e26 := e26.symm
    replace ex9 := ex9.symm
    subst e26
    subst ex9
    cases h21
    have k_hs27 := tok_ok f (show (tok f n a).2.2.1 ≤ n from by omega)
    have p_hs27 := tok_pos f (show (tok f n a).2.2.1 ≤ n from by omega)
    have l_hs27 := hs27.2.2.1
    show am_V G _ _ _ _ _ 9 [(1, .int (nI k6)), (0, .ref 1225)] [] (am_up (am_up M3 1229 (.inl (0, 4096, .inl g25))) 1225 (.inr (12, [.ref 1226, .ref 1227, .ref 1228, .ref 1213, .ref 1220, .ref 1212, .int (nI n), .int (nI (tok f n ((tok f n a).2.2.1)).2.1), .int (nI (tok f n ((tok f n a).2.2.1)).2.2.1), .int tk22, .int (nI (o + 1)), .long nu23, .ref 1229, .int (nI l24), .ref 1230, .int (nI tp), .int (-1), .ref 1231, .int (nI vb), .int kn, .int rk, .ref 1232]))) nx 0 0
    refine v_aload_n (am_Dk d_MR_compound (k := 5) rfl) rfl ?_
    have m29 : (am_up (am_up M3 1229 (.inl (0, 4096, .inl g25))) 1225 (.inr (12, [.ref 1226, .ref 1227, .ref 1228, .ref 1213, .ref 1220, .ref 1212, .int (nI n), .int (nI (tok f n ((tok f n a).2.2.1)).2.1), .int (nI (tok f n ((tok f n a).2.2.1)).2.2.1), .int tk22, .int (nI (o + 1)), .long nu23, .ref 1229, .int (nI l24), .ref 1230, .int (nI tp), .int (-1), .ref 1231, .int (nI vb), .int kn, .int rk, .ref 1232]))) 1225 = some (.inr (12, [.ref 1226, .ref 1227, .ref 1228, .ref 1213, .ref 1220, .ref 1212, .int (nI n), .int (nI (tok f n ((tok f n a).2.2.1)).2.1), .int (nI (tok f n ((tok f n a).2.2.1)).2.2.1), .int tk22, .int (nI (o + 1)), .long nu23, .ref 1229, .int (nI l24), .ref 1230, .int (nI tp), .int (-1), .ref 1231, .int (nI vb), .int kn, .int rk, .ref 1232])) := am_up_eq _ _ _
    refine v_get (am_Dk d_MR_compound (k := 6) rfl) f_MR_102 m29 rfl ?_
    refine v_istore_n (L1 := [(2, .int (nI tp)), (1, .int (nI k6)), (0, .ref 1225)]) (am_Dk d_MR_compound (k := 7) rfl) (by decide) rfl ?_
    refine v_aload_n (am_Dk d_MR_compound (k := 8) rfl) rfl ?_
    have m30 : (am_up (am_up M3 1229 (.inl (0, 4096, .inl g25))) 1225 (.inr (12, [.ref 1226, .ref 1227, .ref 1228, .ref 1213, .ref 1220, .ref 1212, .int (nI n), .int (nI (tok f n ((tok f n a).2.2.1)).2.1), .int (nI (tok f n ((tok f n a).2.2.1)).2.2.1), .int tk22, .int (nI (o + 1)), .long nu23, .ref 1229, .int (nI l24), .ref 1230, .int (nI tp), .int (-1), .ref 1231, .int (nI vb), .int kn, .int rk, .ref 1232]))) 1212 = some (.inl (0, 4096, .inl f)) := (am_up_ne (show 1212 ≠ 1225 from by decide)).trans ((am_up_ne (show 1212 ≠ 1229 from by decide)).trans (hm15.1))
    have m31 : (am_up (am_up M3 1229 (.inl (0, 4096, .inl g25))) 1225 (.inr (12, [.ref 1226, .ref 1227, .ref 1228, .ref 1213, .ref 1220, .ref 1212, .int (nI n), .int (nI (tok f n ((tok f n a).2.2.1)).2.1), .int (nI (tok f n ((tok f n a).2.2.1)).2.2.1), .int tk22, .int (nI (o + 1)), .long nu23, .ref 1229, .int (nI l24), .ref 1230, .int (nI tp), .int (-1), .ref 1231, .int (nI vb), .int kn, .int rk, .ref 1232]))) 1229 = some (.inl (0, 4096, .inl g25)) := (am_up_ne (show 1229 ≠ 1225 from by decide)).trans (am_up_eq _ _ _)
    refine v_callV (rest := []) (As := []) (mc' := 0) (ms' := 0) (am_Dk d_MR_compound (k := 9) rfl) c_MR_113 (Or.inl ⟨_, _, _, _, _, m29, cq_ok12⟩) (t_MR_scan G (d := 5) (be := 0) (a := (tok f n ((tok f n a).2.2.1)).2.2.1) (by omega) m29 m30 hn hb (by omega) m31 hg28) (by omega) (by omega) (by omega) (by simp [Value.category]) rfl (fun v32 M33 n34 h35 => ?_) (fun _ _ _ h35 => ?_)
    rotate_left
    · obtain ⟨_, _, _, _, hx9, _⟩ := h35; cases hx9
    obtain ⟨tk36, nu37, l38, g39, h35, ex9, e40, hs41, hg42⟩ := h35
    replace e40 := e40.symm
    replace ex9 := ex9.symm
    subst e40
    subst ex9
    cases h35
    rw [am_uu1 (a := 1229)]
    rw [am_uu1 (a := 1225)]
    have k_hs41 := tok_ok f (show (tok f n ((tok f n a).2.2.1)).2.2.1 ≤ n from by omega)
    have p_hs41 := tok_pos f (show (tok f n ((tok f n a).2.2.1)).2.2.1 ≤ n from by omega)
    have l_hs41 := hs41.2.2.1
    show am_V G _ _ _ _ _ 18 [(2, .int (nI tp)), (1, .int (nI k6)), (0, .ref 1225)] [] (am_up (am_up M3 1229 (.inl (0, 4096, .inl g39))) 1225 (.inr (12, [.ref 1226, .ref 1227, .ref 1228, .ref 1213, .ref 1220, .ref 1212, .int (nI n), .int (nI (tok f n ((tok f n ((tok f n a).2.2.1)).2.2.1)).2.1), .int (nI (tok f n ((tok f n ((tok f n a).2.2.1)).2.2.1)).2.2.1), .int tk36, .int (nI (o + 1)), .long nu37, .ref 1229, .int (nI l38), .ref 1230, .int (nI tp), .int (-1), .ref 1231, .int (nI vb), .int kn, .int rk, .ref 1232]))) nx 0 0
    refine v_aload_n (am_Dk d_MR_compound (k := 10) rfl) rfl ?_
    have m43 : (am_up (am_up M3 1229 (.inl (0, 4096, .inl g39))) 1225 (.inr (12, [.ref 1226, .ref 1227, .ref 1228, .ref 1213, .ref 1220, .ref 1212, .int (nI n), .int (nI (tok f n ((tok f n ((tok f n a).2.2.1)).2.2.1)).2.1), .int (nI (tok f n ((tok f n ((tok f n a).2.2.1)).2.2.1)).2.2.1), .int tk36, .int (nI (o + 1)), .long nu37, .ref 1229, .int (nI l38), .ref 1230, .int (nI tp), .int (-1), .ref 1231, .int (nI vb), .int kn, .int rk, .ref 1232]))) 1225 = some (.inr (12, [.ref 1226, .ref 1227, .ref 1228, .ref 1213, .ref 1220, .ref 1212, .int (nI n), .int (nI (tok f n ((tok f n ((tok f n a).2.2.1)).2.2.1)).2.1), .int (nI (tok f n ((tok f n ((tok f n a).2.2.1)).2.2.1)).2.2.1), .int tk36, .int (nI (o + 1)), .long nu37, .ref 1229, .int (nI l38), .ref 1230, .int (nI tp), .int (-1), .ref 1231, .int (nI vb), .int kn, .int rk, .ref 1232])) := am_up_eq _ _ _
    refine v_get (am_Dk d_MR_compound (k := 11) rfl) f_MR_102 m43 rfl ?_
    refine v_iload_n (am_Dk d_MR_compound (k := 12) rfl) rfl ?_
    refine v_isub (am_Dk d_MR_compound (k := 13) rfl) ?_
    rw [nI_sub (by omega), Nat.sub_self]
    refine v_bipush (v := 8) (am_Dk d_MR_compound (k := 14) rfl) (by decide) ?_
    refine v_icmp_ne (tgt := 38) (am_Dk d_MR_compound (k := 15) rfl) (by decide) (fun c44 => ?_) (fun c44 => ?_)
    · have Nc44 : ¬ 0 = 8 := fun z => c44 ((nI_eq (a := 0) (b := 8) (by omega) (by omega)).mpr z)
      refine v_aload_n (am_Dk d_MR_compound (k := 21) rfl) rfl ?_
      refine v_sipush (v := 999) (am_Dk d_MR_compound (k := 22) rfl) (by decide) ?_
      have ps45 := (show PS f n LU (am_up (am_up M3 1229 (.inl (0, 4096, .inl g39))) 1225 (.inr (12, [.ref 1226, .ref 1227, .ref 1228, .ref 1213, .ref 1220, .ref 1212, .int (nI n), .int (nI (tok f n ((tok f n ((tok f n a).2.2.1)).2.2.1)).2.1), .int (nI (tok f n ((tok f n ((tok f n a).2.2.1)).2.2.1)).2.2.1), .int tk36, .int (nI (o + 1)), .long nu37, .ref 1229, .int (nI l38), .ref 1230, .int (nI tp), .int (-1), .ref 1231, .int (nI vb), .int kn, .int rk, .ref 1232]))) ((tok f n ((tok f n a).2.2.1)).2.2.1) (o + 1) tp S rk sz pt ns7 tx8 vb e1 e2 W On9 Vx from ⟨⟨by omega, by omega, by omega, by omega, by omega, by omega, by omega, by omega, by omega, by omega⟩, mb_fr hm15 (fun i hi => (am_up_ne (show i ≠ 1225 from by omega)).trans ((am_up_ne (show i ≠ 1229 from by omega)).trans (rfl))), RS_fr hR17 (fun i hi => (am_up_ne (show i ≠ 1225 from by omega)).trans ((am_up_ne (show i ≠ 1229 from by omega)).trans (rfl))), (am_up_ne (show 1230 ≠ 1225 from by decide)).trans ((am_up_ne (show 1230 ≠ 1229 from by decide)).trans (b13)), ⟨_, (am_up_ne (show 1232 ≠ 1225 from by decide)).trans ((am_up_ne (show 1232 ≠ 1229 from by decide)).trans (b14))⟩, tk36, nu37, l38, g39, kn, am_up_eq _ _ _, hs41, (am_up_ne (show 1229 ≠ 1225 from by decide)).trans (am_up_eq _ _ _), hg42⟩)
      refine v_callV (rest := []) (As := [.int 999]) (mc' := 0) (ms' := 0) (am_Dk d_MR_compound (k := 23) rfl) c_MR_119 (Or.inl ⟨_, _, _, _, _, m43, cq_ok12⟩) (IH _ _ 999 _ _ _ _ _ _ _ _ _ _ _ _ _ _ ps45 (by decide)) (by omega) (by omega) (by omega) (by simp [Value.category]) rfl (fun v46 M47 n48 h49 => ?_) (fun x9 M47 n48 h49 => ?_)
      rotate_left
      · obtain ⟨ex9, pfT, hT⟩ := h49
        replace ex9 := ex9.symm
        subst ex9
        rcases hT with ⟨_, _, _, _, _, _, _, _, _, _, _, _, _, _, hx9, _⟩ | ⟨wT, hx9, pxT, bT⟩
        · cases hx9
        · cases hx9
          exact vt_leave (fun q hq => by cases hq) (by omega) (by omega) ⟨rfl, (fun i hi => (pfT i hi).trans ((am_up_ne (show i ≠ 1225 from by omega)).trans ((am_up_ne (show i ≠ 1229 from by omega)).trans ((fr16 i hi))))), Or.inr ⟨wT, rfl, pxT, bT.elim (fun z => by rw [z.2]; exact q_arg9 hn (by omega) hk2 hop.1 hop.2 ho1) (fun z => absurd z.1 ho1)⟩⟩
      obtain ⟨ex9, pf64, hT⟩ := h49
      replace ex9 := ex9.symm
      subst ex9
      rcases hT with ⟨t50, a51, S52, rk53, sz54, pt55, ns56, tx57, vb58, e159, e260, W61, On62, Vx63, hx9, psx, pe65, tr66, ee67⟩ | ⟨_, hx9, _⟩
      rotate_left
      · cases hx9
      cases hx9
      obtain ⟨pb73, hm74, hR75, hS76, ⟨kc77, hk78⟩, tk68, nu69, l70, g71, kn72, hr79, hs80, hw81, hg82⟩ := psx
      obtain ⟨pb73_0, pb73_1, pb73_2, pb73_3, pb73_4, pb73_5, pb73_6, pb73_7, pb73_8, pb73_9⟩ := pb73
      obtain ⟨pe65_0, pe65_1, pe65_2, pe65_3, pe65_4, pe65_5, pe65_6, pe65_7, pe65_8⟩ := pe65
      replace hr79 : M47 1225 = some (.inr (12, [.ref 1226, .ref 1227, .ref 1228, .ref 1213, .ref 1220, .ref 1212, .int (nI n), .int (nI ((tok f n a51).2.1)), .int (nI ((tok f n a51).2.2.1)), .int tk68, .int (nI (o + 1)), .long nu69, .ref 1229, .int (nI l70), .ref 1230, .int (nI tp), .int (-1), .ref 1231, .int (nI vb58), .int kn72, .int rk53, .ref 1232])) := hr79
      have k_hs80 := tok_ok f pb73_0
      have p_hs80 := tok_pos f pb73_0
      have l_hs80 := hs80.2.2.1
      have fr83 : pf_fr M M47 := fun i hi => (pf64 i hi).trans ((am_up_ne (show i ≠ 1225 from by omega)).trans ((am_up_ne (show i ≠ 1229 from by omega)).trans ((fr16 i hi))))
      show am_V G _ _ _ _ _ 45 [(2, .int (nI tp)), (1, .int (nI k6)), (0, .ref 1225)] [.int (nI t50)] M47 nx 0 0
      exact absurd ee67.1 ho1
    · exact absurd ((nI_eq (a := 0) (b := 8) (by omega) (by omega)).mp c44) (by omega)
  have h14 : ∀ m i (M2 : am_M) (k aC : Nat) (S2 : Nat → Int32) (rkC : Int32) (sz2 pt2 ns2 tx2 vb2 f1 f2 : Nat) (W2 : Gho) (On2 : Nat → Nat) (Vx2 : Nat → Option (Nat × (Nat → Int32))) (fi : Opd) (y : Nat → Nat), i + m = 8 → PS f n LU M2 aC (o + 1) (tp + i) S2 rkC sz2 pt2 ns2 tx2 vb2 f1 f2 W2 On2 Vx2 → pf_fr M M2 → ¬ (tok f n aC).1 = 10 → sz ≤ sz2 → gh_eq sz W W2 → ns ≤ ns2 → (∀ j, j < ns → On2 j = On j) → (∀ j, j < tp → S2 j = S j) → k < ns2 → On2 k = (tok f n a).2.2.2.2 → sz2 + a + 1 ≤ sz + aC → pt2 + sz + i ≤ pt + sz2 → (∀ j, j < i → y j < sz2 ∧ S2 (tp + j) = nI (y j)) → (1 ≤ i → OpN f n W2 (y 0) fi) → (i < 8 ∧ ARg f n lu o mo a 4 (tok f n a).2.2.2.2 i (sz2 - sz) (tok f n aC).2.2.1 fi ∨ i = 8 ∧ TBad f n lu o mo a (tok f n (tok f n aC).2.2.1).2.1) → am_V G m_MR_compound d 0 0 (RQ f n LU lu M nx o mo a (o + 1) tp S sz pt ns W On (fun _ _ => True) (fun w => TBad f n lu o mo a w)) 14 [(1, .int (nI k)), (2, .int (nI tp)), (0, .ref 1225)] [] M2 nx 0 0 := by
    intro m
    induction m with
    | zero =>
      intro i M2 k aC S2 rkC sz2 pt2 ns2 tx2 vb2 f1 f2 W2 On2 Vx2 fi y him h2 fr2 hkC hsz hge hns hOn hSt hkn hkO hb1 hb2 hy hfi hAR
      rcases hAR with ⟨hi8, _⟩ | ⟨hi8, hBad⟩
      · omega
      obtain ⟨hpb2, hm2, hR2, hS2, ⟨kc2, hkc2⟩, tk2, nu2, l2, g2, kn2, hr2, hsc2, hw2, hg2⟩ := h2
      replace hr2 : M2 1225 = some (.inr (12, [.ref 1226, .ref 1227, .ref 1228, .ref 1213, .ref 1220, .ref 1212, .int (nI n), .int (nI ((tok f n aC).2.1)), .int (nI ((tok f n aC).2.2.1)), .int tk2, .int (nI (o + 1)), .long nu2, .ref 1229, .int (nI l2), .ref 1230, .int (nI (tp + i)), .int (-1), .ref 1231, .int (nI vb2), .int kn2, .int rkC, .ref 1232])) := hr2
      obtain ⟨qb_0, qb_1, qb_2, qb_3, qb_4, qb_5, qb_6, qb_7, qb_8, qb_9⟩ := hpb2
      have k_C := tok_ok f qb_0
      have p_C := tok_pos f qb_0 hkC
      refine v_aload_n (am_Dk d_MR_compound (k := 8) rfl) rfl ?_
      refine v_callV (rest := []) (As := []) (mc' := 0) (ms' := 0) (am_Dk d_MR_compound (k := 9) rfl) c_MR_113 (Or.inl ⟨_, _, _, _, _, hr2, cq_ok12⟩) (t_MR_scan G (d := 5) (be := 0) (a := (tok f n aC).2.2.1) (by omega) hr2 hm2.1 hn hb (by omega) hw2 hg2) (by omega) (by omega) (by omega) (by simp [Value.category]) rfl (fun v1 M2 n3 h4 => ?_) (fun _ _ _ h4 => ?_)
      rotate_left
      · obtain ⟨_, _, _, _, hx9, _⟩ := h4; cases hx9
      obtain ⟨tk5, nu6, l7, g8, h4, ex9, e9, hs10, hg11⟩ := h4
      replace e9 := e9.symm
      replace ex9 := ex9.symm
      subst e9
      subst ex9
      cases h4
      have k_hs10 := tok_ok f (show (tok f n aC).2.2.1 ≤ n from by omega)
      have p_hs10 := tok_pos f (show (tok f n aC).2.2.1 ≤ n from by omega)
      have l_hs10 := hs10.2.2.1
      show am_V G _ _ _ _ _ 18 [(1, .int (nI k)), (2, .int (nI tp)), (0, .ref 1225)] [] (am_up (am_up M2 1229 (.inl (0, 4096, .inl g8))) 1225 (.inr (12, [.ref 1226, .ref 1227, .ref 1228, .ref 1213, .ref 1220, .ref 1212, .int (nI n), .int (nI (tok f n ((tok f n aC).2.2.1)).2.1), .int (nI (tok f n ((tok f n aC).2.2.1)).2.2.1), .int tk5, .int (nI (o + 1)), .long nu6, .ref 1229, .int (nI l7), .ref 1230, .int (nI (tp + i)), .int (-1), .ref 1231, .int (nI vb2), .int kn2, .int rkC, .ref 1232]))) nx 0 0
      refine v_aload_n (am_Dk d_MR_compound (k := 10) rfl) rfl ?_
      have m12 : (am_up (am_up M2 1229 (.inl (0, 4096, .inl g8))) 1225 (.inr (12, [.ref 1226, .ref 1227, .ref 1228, .ref 1213, .ref 1220, .ref 1212, .int (nI n), .int (nI (tok f n ((tok f n aC).2.2.1)).2.1), .int (nI (tok f n ((tok f n aC).2.2.1)).2.2.1), .int tk5, .int (nI (o + 1)), .long nu6, .ref 1229, .int (nI l7), .ref 1230, .int (nI (tp + i)), .int (-1), .ref 1231, .int (nI vb2), .int kn2, .int rkC, .ref 1232]))) 1225 = some (.inr (12, [.ref 1226, .ref 1227, .ref 1228, .ref 1213, .ref 1220, .ref 1212, .int (nI n), .int (nI (tok f n ((tok f n aC).2.2.1)).2.1), .int (nI (tok f n ((tok f n aC).2.2.1)).2.2.1), .int tk5, .int (nI (o + 1)), .long nu6, .ref 1229, .int (nI l7), .ref 1230, .int (nI (tp + i)), .int (-1), .ref 1231, .int (nI vb2), .int kn2, .int rkC, .ref 1232])) := am_up_eq _ _ _
      refine v_get (am_Dk d_MR_compound (k := 11) rfl) f_MR_102 m12 rfl ?_
      refine v_iload_n (am_Dk d_MR_compound (k := 12) rfl) rfl ?_
      refine v_isub (am_Dk d_MR_compound (k := 13) rfl) ?_
      rw [nI_sub (by omega), show tp + i - tp = i from by omega]
      refine v_bipush (v := 8) (am_Dk d_MR_compound (k := 14) rfl) (by decide) ?_
      refine v_icmp_ne (tgt := 38) (am_Dk d_MR_compound (k := 15) rfl) (by decide) (fun c13 => ?_) (fun c13 => ?_)
      · exact absurd (show nI i = 8 from by rw [hi8]; rfl) c13
      · have Nc13 := (nI_eq (a := i) (b := 8) (by omega) (by omega)).mp c13
        refine v_aload_n (am_Dk d_MR_compound (k := 16) rfl) rfl ?_
        refine v_aload_n (am_Dk d_MR_compound (k := 17) rfl) rfl ?_
        refine v_get (am_Dk d_MR_compound (k := 18) rfl) f_MR_116 m12 rfl ?_
        refine v_callV (rest := []) (As := [.int (nI (tok f n ((tok f n aC).2.2.1)).2.1)]) (mc' := 0) (ms' := 0) (am_Dk d_MR_compound (k := 19) rfl) c_MR_126 (Or.inl ⟨_, _, _, _, _, m12, cq_ok12⟩) (t_MR_bad G (d := 0) (by omega) m12) (by omega) (by omega) (by omega) (by simp [Value.category]) rfl (fun v14 M15 n16 h17 => ?_) (fun _ _ _ h17 => ?_)
        rotate_left
        · exact absurd h17.1 (by simp)
        obtain ⟨h17, e18, e19⟩ := h17
        replace e18 := e18.symm
        replace e19 := e19.symm
        subst e18
        subst e19
        cases h17
        rw [am_uu0 (a := 1225)]
        show am_V G _ _ _ _ _ 37 [(1, .int (nI k)), (2, .int (nI tp)), (0, .ref 1225)] [.ref 1228] (am_up (am_up M2 1229 (.inl (0, 4096, .inl g8))) 1225 (.inr (12, [.ref 1226, .ref 1227, .ref 1228, .ref 1213, .ref 1220, .ref 1212, .int (nI n), .int (nI (tok f n ((tok f n aC).2.2.1)).2.1), .int (nI (tok f n ((tok f n aC).2.2.1)).2.2.1), .int tk5, .int (nI (o + 1)), .long nu6, .ref 1229, .int (nI l7), .ref 1230, .int (nI (tp + i)), .int (nI (tok f n ((tok f n aC).2.2.1)).2.1), .ref 1231, .int (nI vb2), .int kn2, .int rkC, .ref 1232]))) nx 0 0
        refine v_athrow (am_Dk d_MR_compound (k := 20) rfl) ?_
        exact vt_leave (fun q hq => by cases hq) (by omega) (by omega) ⟨rfl, (fun i hi => (am_up_ne (show i ≠ 1225 from by omega)).trans ((am_up_ne (show i ≠ 1229 from by omega)).trans ((fr2 i hi)))), Or.inr ⟨(tok f n ((tok f n aC).2.2.1)).2.1, rfl, (show PX f n (am_up (am_up M2 1229 (.inl (0, 4096, .inl g8))) 1225 (.inr (12, [.ref 1226, .ref 1227, .ref 1228, .ref 1213, .ref 1220, .ref 1212, .int (nI n), .int (nI (tok f n ((tok f n aC).2.2.1)).2.1), .int (nI (tok f n ((tok f n aC).2.2.1)).2.2.1), .int tk5, .int (nI (o + 1)), .long nu6, .ref 1229, .int (nI l7), .ref 1230, .int (nI (tp + i)), .int (nI (tok f n ((tok f n aC).2.2.1)).2.1), .ref 1231, .int (nI vb2), .int kn2, .int rkC, .ref 1232]))) ((tok f n ((tok f n aC).2.2.1)).2.1) from ⟨by omega, RS_rx (mb_fr hm2 (fun i hi => (am_up_ne (show i ≠ 1225 from by omega)).trans ((am_up_ne (show i ≠ 1229 from by omega)).trans (rfl)))) (RS_fr hR2 (fun i hi => (am_up_ne (show i ≠ 1225 from by omega)).trans ((am_up_ne (show i ≠ 1229 from by omega)).trans (rfl)))) ((am_up_ne (show 1229 ≠ 1225 from by decide)).trans (am_up_eq _ _ _)) hg11 ((am_up_ne (show 1230 ≠ 1225 from by decide)).trans ((am_up_ne (show 1230 ≠ 1229 from by decide)).trans (hS2))) ⟨_, (am_up_ne (show 1232 ≠ 1225 from by decide)).trans ((am_up_ne (show 1232 ≠ 1229 from by decide)).trans (hkc2))⟩, _, _, _, _, _, _, _, _, _, _, am_up_eq _ _ _⟩), hBad⟩⟩
    | succ m ih =>
      intro i M2 k aC S2 rkC sz2 pt2 ns2 tx2 vb2 f1 f2 W2 On2 Vx2 fi y him h2 fr2 hkC hsz hge hns hOn hSt hkn hkO hb1 hb2 hy hfi hAR
      rcases hAR with ⟨hi8, hAR⟩ | ⟨hi8, _⟩
      rotate_left
      · omega
      obtain ⟨hpb2, hm2, hR2, hS2, ⟨kc2, hkc2⟩, tk2, nu2, l2, g2, kn2, hr2, hsc2, hw2, hg2⟩ := h2
      replace hr2 : M2 1225 = some (.inr (12, [.ref 1226, .ref 1227, .ref 1228, .ref 1213, .ref 1220, .ref 1212, .int (nI n), .int (nI ((tok f n aC).2.1)), .int (nI ((tok f n aC).2.2.1)), .int tk2, .int (nI (o + 1)), .long nu2, .ref 1229, .int (nI l2), .ref 1230, .int (nI (tp + i)), .int (-1), .ref 1231, .int (nI vb2), .int kn2, .int rkC, .ref 1232])) := hr2
      obtain ⟨qb_0, qb_1, qb_2, qb_3, qb_4, qb_5, qb_6, qb_7, qb_8, qb_9⟩ := hpb2
      have k_C := tok_ok f qb_0
      have p_C := tok_pos f qb_0 hkC
      refine v_aload_n (am_Dk d_MR_compound (k := 8) rfl) rfl ?_
      refine v_callV (rest := []) (As := []) (mc' := 0) (ms' := 0) (am_Dk d_MR_compound (k := 9) rfl) c_MR_113 (Or.inl ⟨_, _, _, _, _, hr2, cq_ok12⟩) (t_MR_scan G (d := 5) (be := 0) (a := (tok f n aC).2.2.1) (by omega) hr2 hm2.1 hn hb (by omega) hw2 hg2) (by omega) (by omega) (by omega) (by simp [Value.category]) rfl (fun v1 M2 n3 h4 => ?_) (fun _ _ _ h4 => ?_)
      rotate_left
      · obtain ⟨_, _, _, _, hx9, _⟩ := h4; cases hx9
      obtain ⟨tk5, nu6, l7, g8, h4, ex9, e9, hs10, hg11⟩ := h4
      replace e9 := e9.symm
      replace ex9 := ex9.symm
      subst e9
      subst ex9
      cases h4
      have k_hs10 := tok_ok f (show (tok f n aC).2.2.1 ≤ n from by omega)
      have p_hs10 := tok_pos f (show (tok f n aC).2.2.1 ≤ n from by omega)
      have l_hs10 := hs10.2.2.1
      show am_V G _ _ _ _ _ 18 [(1, .int (nI k)), (2, .int (nI tp)), (0, .ref 1225)] [] (am_up (am_up M2 1229 (.inl (0, 4096, .inl g8))) 1225 (.inr (12, [.ref 1226, .ref 1227, .ref 1228, .ref 1213, .ref 1220, .ref 1212, .int (nI n), .int (nI (tok f n ((tok f n aC).2.2.1)).2.1), .int (nI (tok f n ((tok f n aC).2.2.1)).2.2.1), .int tk5, .int (nI (o + 1)), .long nu6, .ref 1229, .int (nI l7), .ref 1230, .int (nI (tp + i)), .int (-1), .ref 1231, .int (nI vb2), .int kn2, .int rkC, .ref 1232]))) nx 0 0
      refine v_aload_n (am_Dk d_MR_compound (k := 10) rfl) rfl ?_
      have m12 : (am_up (am_up M2 1229 (.inl (0, 4096, .inl g8))) 1225 (.inr (12, [.ref 1226, .ref 1227, .ref 1228, .ref 1213, .ref 1220, .ref 1212, .int (nI n), .int (nI (tok f n ((tok f n aC).2.2.1)).2.1), .int (nI (tok f n ((tok f n aC).2.2.1)).2.2.1), .int tk5, .int (nI (o + 1)), .long nu6, .ref 1229, .int (nI l7), .ref 1230, .int (nI (tp + i)), .int (-1), .ref 1231, .int (nI vb2), .int kn2, .int rkC, .ref 1232]))) 1225 = some (.inr (12, [.ref 1226, .ref 1227, .ref 1228, .ref 1213, .ref 1220, .ref 1212, .int (nI n), .int (nI (tok f n ((tok f n aC).2.2.1)).2.1), .int (nI (tok f n ((tok f n aC).2.2.1)).2.2.1), .int tk5, .int (nI (o + 1)), .long nu6, .ref 1229, .int (nI l7), .ref 1230, .int (nI (tp + i)), .int (-1), .ref 1231, .int (nI vb2), .int kn2, .int rkC, .ref 1232])) := am_up_eq _ _ _
      refine v_get (am_Dk d_MR_compound (k := 11) rfl) f_MR_102 m12 rfl ?_
      refine v_iload_n (am_Dk d_MR_compound (k := 12) rfl) rfl ?_
      refine v_isub (am_Dk d_MR_compound (k := 13) rfl) ?_
      rw [nI_sub (by omega), show tp + i - tp = i from by omega]
      refine v_bipush (v := 8) (am_Dk d_MR_compound (k := 14) rfl) (by decide) ?_
      refine v_icmp_ne (tgt := 38) (am_Dk d_MR_compound (k := 15) rfl) (by decide) (fun c13 => ?_) (fun c13 => ?_)
      · have Nc13 : ¬ i = 8 := fun z => c13 ((nI_eq (a := i) (b := 8) (by omega) (by omega)).mpr z)
        refine v_aload_n (am_Dk d_MR_compound (k := 21) rfl) rfl ?_
        refine v_sipush (v := 999) (am_Dk d_MR_compound (k := 22) rfl) (by decide) ?_
        have ps14 := (show PS f n LU (am_up (am_up M2 1229 (.inl (0, 4096, .inl g8))) 1225 (.inr (12, [.ref 1226, .ref 1227, .ref 1228, .ref 1213, .ref 1220, .ref 1212, .int (nI n), .int (nI (tok f n ((tok f n aC).2.2.1)).2.1), .int (nI (tok f n ((tok f n aC).2.2.1)).2.2.1), .int tk5, .int (nI (o + 1)), .long nu6, .ref 1229, .int (nI l7), .ref 1230, .int (nI (tp + i)), .int (-1), .ref 1231, .int (nI vb2), .int kn2, .int rkC, .ref 1232]))) ((tok f n aC).2.2.1) (o + 1) (tp + i) S2 rkC sz2 pt2 ns2 tx2 vb2 f1 f2 W2 On2 Vx2 from ⟨⟨by omega, by omega, by omega, by omega, by omega, by omega, by omega, by omega, by omega, by omega⟩, mb_fr hm2 (fun i hi => (am_up_ne (show i ≠ 1225 from by omega)).trans ((am_up_ne (show i ≠ 1229 from by omega)).trans (rfl))), RS_fr hR2 (fun i hi => (am_up_ne (show i ≠ 1225 from by omega)).trans ((am_up_ne (show i ≠ 1229 from by omega)).trans (rfl))), (am_up_ne (show 1230 ≠ 1225 from by decide)).trans ((am_up_ne (show 1230 ≠ 1229 from by decide)).trans (hS2)), ⟨_, (am_up_ne (show 1232 ≠ 1225 from by decide)).trans ((am_up_ne (show 1232 ≠ 1229 from by decide)).trans (hkc2))⟩, tk5, nu6, l7, g8, kn2, am_up_eq _ _ _, hs10, (am_up_ne (show 1229 ≠ 1225 from by decide)).trans (am_up_eq _ _ _), hg11⟩)
        refine v_callV (rest := []) (As := [.int 999]) (mc' := 0) (ms' := 0) (am_Dk d_MR_compound (k := 23) rfl) c_MR_119 (Or.inl ⟨_, _, _, _, _, m12, cq_ok12⟩) (IH _ _ 999 _ _ _ _ _ _ _ _ _ _ _ _ _ _ ps14 (by decide)) (by omega) (by omega) (by omega) (by simp [Value.category]) rfl (fun v15 M16 n17 h18 => ?_) (fun x9 M16 n17 h18 => ?_)
        rotate_left
        · obtain ⟨ex9, pfT, hT⟩ := h18
          replace ex9 := ex9.symm
          subst ex9
          rcases hT with ⟨_, _, _, _, _, _, _, _, _, _, _, _, _, _, hx9, _⟩ | ⟨wT, hx9, pxT, bT⟩
          · cases hx9
          · cases hx9
            exact vt_leave (fun q hq => by cases hq) (by omega) (by omega) ⟨rfl, (fun i hi => (pfT i hi).trans ((am_up_ne (show i ≠ 1225 from by omega)).trans ((am_up_ne (show i ≠ 1229 from by omega)).trans ((fr2 i hi))))), Or.inr ⟨wT, rfl, pxT, bT.elim (fun z => absurd z.1 (by omega)) (fun z => q_rowB hAR z.2)⟩⟩
        obtain ⟨ex9, pf33, hT⟩ := h18
        replace ex9 := ex9.symm
        subst ex9
        rcases hT with ⟨t19, a20, S21, rk22, sz23, pt24, ns25, tx26, vb27, e128, e229, W30, On31, Vx32, hx9, psx, pe34, tr35, ee36⟩ | ⟨_, hx9, _⟩
        rotate_left
        · cases hx9
        cases hx9
        obtain ⟨pb42, hm43, hR44, hS45, ⟨kc46, hk47⟩, tk37, nu38, l39, g40, kn41, hr48, hs49, hw50, hg51⟩ := psx
        obtain ⟨pb42_0, pb42_1, pb42_2, pb42_3, pb42_4, pb42_5, pb42_6, pb42_7, pb42_8, pb42_9⟩ := pb42
        obtain ⟨pe34_0, pe34_1, pe34_2, pe34_3, pe34_4, pe34_5, pe34_6, pe34_7, pe34_8⟩ := pe34
        replace hr48 : M16 1225 = some (.inr (12, [.ref 1226, .ref 1227, .ref 1228, .ref 1213, .ref 1220, .ref 1212, .int (nI n), .int (nI ((tok f n a20).2.1)), .int (nI ((tok f n a20).2.2.1)), .int tk37, .int (nI (o + 1)), .long nu38, .ref 1229, .int (nI l39), .ref 1230, .int (nI (tp + i)), .int (-1), .ref 1231, .int (nI vb27), .int kn41, .int rk22, .ref 1232])) := hr48
        have k_hs49 := tok_ok f pb42_0
        have p_hs49 := tok_pos f pb42_0
        have l_hs49 := hs49.2.2.1
        have fr52 : pf_fr M M16 := fun i hi => (pf33 i hi).trans ((am_up_ne (show i ≠ 1225 from by omega)).trans ((am_up_ne (show i ≠ 1229 from by omega)).trans ((fr2 i hi))))
        show am_V G _ _ _ _ _ 45 [(1, .int (nI k)), (2, .int (nI tp)), (0, .ref 1225)] [.int (nI t19)] M16 nx 0 0
        refine v_istore_n (L1 := [(3, .int (nI t19)), (1, .int (nI k)), (2, .int (nI tp)), (0, .ref 1225)]) (am_Dk d_MR_compound (k := 24) rfl) (by decide) rfl ?_
        refine v_aload_n (am_Dk d_MR_compound (k := 25) rfl) rfl ?_
        refine v_get (am_Dk d_MR_compound (k := 26) rfl) f_MR_72 hr48 rfl ?_
        refine v_aload_n (am_Dk d_MR_compound (k := 27) rfl) rfl ?_
        refine v_dup (am_Dk d_MR_compound (k := 28) rfl) rfl ?_
        refine v_get (am_Dk d_MR_compound (k := 29) rfl) f_MR_102 hr48 rfl ?_
        refine v_dup_x1 (am_Dk d_MR_compound (k := 30) rfl) rfl rfl ?_
        refine v_iconst (v := 1) (am_Dk d_MR_compound (k := 31) rfl) (by decide) ?_
        refine v_iadd (am_Dk d_MR_compound (k := 32) rfl) ?_
        rw [nI_1]
        refine v_put (am_Dk d_MR_compound (k := 33) rfl) f_MR_102 hr48 (Nat.le_of_ble_eq_true rfl) rfl rfl ?_
        refine v_iload_n (am_Dk d_MR_compound (k := 34) rfl) rfl ?_
        have m53 : (am_up M16 1225 (.inr (12, [.ref 1226, .ref 1227, .ref 1228, .ref 1213, .ref 1220, .ref 1212, .int (nI n), .int (nI ((tok f n a20).2.1)), .int (nI ((tok f n a20).2.2.1)), .int tk37, .int (nI (o + 1)), .long nu38, .ref 1229, .int (nI l39), .ref 1230, .int (nI (tp + i + 1)), .int (-1), .ref 1231, .int (nI vb27), .int kn41, .int rk22, .ref 1232]))) 1230 = some (.inl (1, 4200, .inl S21)) := (am_up_ne (show 1230 ≠ 1225 from by decide)).trans (hS45)
        refine v_iast (am_Dk d_MR_compound (k := 35) rfl) m53 rfl (vp_in_nI (by omega) (by omega)) ?_
        rw [nI_clamp (n := tp + i) (by omega)]
        refine v_aload_n (am_Dk d_MR_compound (k := 36) rfl) rfl ?_
        have m54 : (am_up (am_up M16 1225 (.inr (12, [.ref 1226, .ref 1227, .ref 1228, .ref 1213, .ref 1220, .ref 1212, .int (nI n), .int (nI ((tok f n a20).2.1)), .int (nI ((tok f n a20).2.2.1)), .int tk37, .int (nI (o + 1)), .long nu38, .ref 1229, .int (nI l39), .ref 1230, .int (nI (tp + i + 1)), .int (-1), .ref 1231, .int (nI vb27), .int kn41, .int rk22, .ref 1232]))) 1230 (.inl (1, 4200, .inl (upd S21 (tp + i) (nI t19))))) 1225 = some (.inr (12, [.ref 1226, .ref 1227, .ref 1228, .ref 1213, .ref 1220, .ref 1212, .int (nI n), .int (nI ((tok f n a20).2.1)), .int (nI ((tok f n a20).2.2.1)), .int tk37, .int (nI (o + 1)), .long nu38, .ref 1229, .int (nI l39), .ref 1230, .int (nI (tp + i + 1)), .int (-1), .ref 1231, .int (nI vb27), .int kn41, .int rk22, .ref 1232])) := (am_up_ne (show 1225 ≠ 1230 from by decide)).trans (am_up_eq _ _ _)
        refine v_get (am_Dk d_MR_compound (k := 37) rfl) f_MR_123 m54 rfl ?_
        refine v_bipush (v := 10) (am_Dk d_MR_compound (k := 38) rfl) (by decide) ?_
        refine v_icmp_eq (tgt := 14) (am_Dk d_MR_compound (k := 39) rfl) (by decide) (fun c55 => ?_) (fun c55 => ?_)
        · have hk7 := (tkR_eq hs49.1 (by omega)).1.mp c55
          have hy9 : ∀ j, j < i + 1 → (fun j => if j = i then t19 else y j) j < sz23 ∧ (upd S21 (tp + i) (nI t19)) (tp + j) = nI ((fun j => if j = i then t19 else y j) j) := by
            intro j hj
            show (if j = i then t19 else y j) < _ ∧ _ = nI (if j = i then t19 else y j)
            by_cases hji : j = i
            · rw [if_pos hji, hji]
              exact ⟨by omega, upd_at _ _ _⟩
            · rw [if_neg hji]
              exact ⟨by have := (hy j (by omega)).1; omega, (upd_ne _ _ (by omega)).trans ((pe34_5 (tp + j) (by omega)).trans (hy j (by omega)).2)⟩
          rcases tr35 with ⟨wT, roT, L9, R9, hTO, hOp, hro, hch⟩ | ⟨hk10, _⟩
          rotate_left
          · omega
          have hD : sz23 - sz = (sz2 - sz) + (sz23 - sz2) := by omega
          have hARn : (i + 1 < 8 ∧ ARg f n lu o mo a 4 (tok f n a).2.2.2.2 (i + 1) (sz23 - sz) (tok f n a20).2.2.1 (if i = 0 then wT else fi) ∨ i + 1 = 8 ∧ TBad f n lu o mo a (tok f n (tok f n a20).2.2.1).2.1) := by
            rw [hD]
            by_cases hi7 : i = 7
            · subst hi7
              exact Or.inr ⟨rfl, q_arg8 hn hAR hTO ee36.2 hk7⟩
            · exact Or.inl ⟨by omega, q_argC hAR hTO ee36.2 hk7 hi7⟩
          refine v_drop (ih (i + 1) _ k a20 _ _ _ _ _ _ _ _ _ _ _ _ (if i = 0 then wT else fi) (fun j => if j = i then t19 else y j) (by omega) (show PS f n LU (am_up (am_up M16 1225 (.inr (12, [.ref 1226, .ref 1227, .ref 1228, .ref 1213, .ref 1220, .ref 1212, .int (nI n), .int (nI ((tok f n a20).2.1)), .int (nI ((tok f n a20).2.2.1)), .int tk37, .int (nI (o + 1)), .long nu38, .ref 1229, .int (nI l39), .ref 1230, .int (nI (tp + (i + 1))), .int (-1), .ref 1231, .int (nI vb27), .int kn41, .int rk22, .ref 1232]))) 1230 (.inl (1, 4200, .inl (upd S21 (tp + i) (nI t19))))) a20 (o + 1) (tp + (i + 1)) (upd S21 (tp + i) (nI t19)) rk22 sz23 pt24 ns25 tx26 vb27 e128 e229 W30 On31 Vx32 from ⟨⟨by omega, by omega, by omega, by omega, by omega, by omega, by omega, by omega, by omega, by omega⟩, mb_fr hm43 (fun i hi => (am_up_ne (show i ≠ 1230 from by omega)).trans ((am_up_ne (show i ≠ 1225 from by omega)).trans (rfl))), RS_fr hR44 (fun i hi => (am_up_ne (show i ≠ 1230 from by omega)).trans ((am_up_ne (show i ≠ 1225 from by omega)).trans (rfl))), am_up_eq _ _ _, ⟨_, (am_up_ne (show 1232 ≠ 1230 from by decide)).trans ((am_up_ne (show 1232 ≠ 1225 from by decide)).trans (hk47))⟩, tk37, nu38, l39, g40, kn41, (am_up_ne (show 1225 ≠ 1230 from by decide)).trans (am_up_eq _ _ _), hs49, (am_up_ne (show 1229 ≠ 1230 from by decide)).trans ((am_up_ne (show 1229 ≠ 1225 from by decide)).trans (hw50)), hg51⟩) (fun i hi => (am_up_ne (show i ≠ 1230 from by omega)).trans ((am_up_ne (show i ≠ 1225 from by omega)).trans ((fr52 i hi)))) (by rw [hk7]; decide) (by omega) (gh_trans hge pe34_2 (by omega)) (by omega) (fun j hj => (pe34_4 j (by omega)).trans (hOn j hj)) (fun j hj => (upd_ne _ _ (by omega)).trans ((pe34_5 j (by omega)).trans (hSt j hj))) (by omega) ((pe34_4 k hkn).trans hkO) (by omega) (by omega) hy9 (fun _ => ?_) hARn) (by simp)
          show OpN f n _ (if 0 = i then t19 else y 0) _
          by_cases h0 : i = 0
          · rw [if_pos h0.symm, if_pos h0]
            exact hOp
          · rw [if_neg (fun z => h0 z.symm), if_neg h0]
            exact OpN_ext (hfi (by omega)) pe34_2 (hy 0 (by omega)).1
        · have hk7 : ¬ (tok f n a20).1 = 7 := fun z => c55 ((tkR_eq hs49.1 (by omega)).1.mpr z)
          refine v_aload_n (am_Dk d_MR_compound (k := 40) rfl) rfl ?_
          refine v_get (am_Dk d_MR_compound (k := 41) rfl) f_MR_123 m54 rfl ?_
          refine v_iconst (v := 5) (am_Dk d_MR_compound (k := 42) rfl) (by decide) ?_
          refine v_icmp_eq (tgt := 89) (am_Dk d_MR_compound (k := 43) rfl) (by decide) (fun c56 => ?_) (fun c56 => ?_)
          · have hk4 := (tkR_eq hs49.1 (by omega)).2.1.mp c56
            refine v_aload_n (am_Dk d_MR_compound (k := 49) rfl) rfl ?_
            have m57 : (am_up (am_up M16 1225 (.inr (12, [.ref 1226, .ref 1227, .ref 1228, .ref 1213, .ref 1220, .ref 1212, .int (nI n), .int (nI ((tok f n a20).2.1)), .int (nI ((tok f n a20).2.2.1)), .int tk37, .int (nI (o + 1)), .long nu38, .ref 1229, .int (nI l39), .ref 1230, .int (nI (tp + i + 1)), .int (-1), .ref 1231, .int (nI vb27), .int kn41, .int rk22, .ref 1232]))) 1230 (.inl (1, 4200, .inl (upd S21 (tp + i) (nI t19))))) 1212 = some (.inl (0, 4096, .inl f)) := (am_up_ne (show 1212 ≠ 1230 from by decide)).trans ((am_up_ne (show 1212 ≠ 1225 from by decide)).trans (hm43.1))
            have m58 : (am_up (am_up M16 1225 (.inr (12, [.ref 1226, .ref 1227, .ref 1228, .ref 1213, .ref 1220, .ref 1212, .int (nI n), .int (nI ((tok f n a20).2.1)), .int (nI ((tok f n a20).2.2.1)), .int tk37, .int (nI (o + 1)), .long nu38, .ref 1229, .int (nI l39), .ref 1230, .int (nI (tp + i + 1)), .int (-1), .ref 1231, .int (nI vb27), .int kn41, .int rk22, .ref 1232]))) 1230 (.inl (1, 4200, .inl (upd S21 (tp + i) (nI t19))))) 1229 = some (.inl (0, 4096, .inl g40)) := (am_up_ne (show 1229 ≠ 1230 from by decide)).trans ((am_up_ne (show 1229 ≠ 1225 from by decide)).trans (hw50))
            refine v_callV (rest := []) (As := []) (mc' := 0) (ms' := 0) (am_Dk d_MR_compound (k := 50) rfl) c_MR_113 (Or.inl ⟨_, _, _, _, _, m54, cq_ok12⟩) (t_MR_scan G (d := 5) (be := 0) (a := (tok f n a20).2.2.1) (by omega) m54 m57 hn hb (by omega) m58 hg51) (by omega) (by omega) (by omega) (by simp [Value.category]) rfl (fun v59 M60 n61 h62 => ?_) (fun _ _ _ h62 => ?_)
            rotate_left
            · obtain ⟨_, _, _, _, hx9, _⟩ := h62; cases hx9
            obtain ⟨tk63, nu64, l65, g66, h62, ex9, e67, hs68, hg69⟩ := h62
            replace e67 := e67.symm
            replace ex9 := ex9.symm
            subst e67
            subst ex9
            cases h62
            rw [am_uu2 (a := 1225)]
            have k_hs68 := tok_ok f (show (tok f n a20).2.2.1 ≤ n from by omega)
            have p_hs68 := tok_pos f (show (tok f n a20).2.2.1 ≤ n from by omega)
            have l_hs68 := hs68.2.2.1
            show am_V G _ _ _ _ _ 93 [(3, .int (nI t19)), (1, .int (nI k)), (2, .int (nI tp)), (0, .ref 1225)] [] (am_up (am_up (am_up M16 1230 (.inl (1, 4200, .inl (upd S21 (tp + i) (nI t19))))) 1229 (.inl (0, 4096, .inl g66))) 1225 (.inr (12, [.ref 1226, .ref 1227, .ref 1228, .ref 1213, .ref 1220, .ref 1212, .int (nI n), .int (nI (tok f n ((tok f n a20).2.2.1)).2.1), .int (nI (tok f n ((tok f n a20).2.2.1)).2.2.1), .int tk63, .int (nI (o + 1)), .long nu64, .ref 1229, .int (nI l65), .ref 1230, .int (nI (tp + i + 1)), .int (-1), .ref 1231, .int (nI vb27), .int kn41, .int rk22, .ref 1232]))) nx 0 0
            refine v_aload_n (am_Dk d_MR_compound (k := 51) rfl) rfl ?_
            have m70 : (am_up (am_up (am_up M16 1230 (.inl (1, 4200, .inl (upd S21 (tp + i) (nI t19))))) 1229 (.inl (0, 4096, .inl g66))) 1225 (.inr (12, [.ref 1226, .ref 1227, .ref 1228, .ref 1213, .ref 1220, .ref 1212, .int (nI n), .int (nI (tok f n ((tok f n a20).2.2.1)).2.1), .int (nI (tok f n ((tok f n a20).2.2.1)).2.2.1), .int tk63, .int (nI (o + 1)), .long nu64, .ref 1229, .int (nI l65), .ref 1230, .int (nI (tp + i + 1)), .int (-1), .ref 1231, .int (nI vb27), .int kn41, .int rk22, .ref 1232]))) 1225 = some (.inr (12, [.ref 1226, .ref 1227, .ref 1228, .ref 1213, .ref 1220, .ref 1212, .int (nI n), .int (nI (tok f n ((tok f n a20).2.2.1)).2.1), .int (nI (tok f n ((tok f n a20).2.2.1)).2.2.1), .int tk63, .int (nI (o + 1)), .long nu64, .ref 1229, .int (nI l65), .ref 1230, .int (nI (tp + i + 1)), .int (-1), .ref 1231, .int (nI vb27), .int kn41, .int rk22, .ref 1232])) := am_up_eq _ _ _
            refine v_get (am_Dk d_MR_compound (k := 52) rfl) f_MR_81 m70 rfl ?_
            refine v_iload_n (am_Dk d_MR_compound (k := 53) rfl) rfl ?_
            refine v_aload_n (am_Dk d_MR_compound (k := 54) rfl) rfl ?_
            refine v_get (am_Dk d_MR_compound (k := 55) rfl) f_MR_72 m70 rfl ?_
            refine v_iload_n (am_Dk d_MR_compound (k := 56) rfl) rfl ?_
            refine v_aload_n (am_Dk d_MR_compound (k := 57) rfl) rfl ?_
            refine v_get (am_Dk d_MR_compound (k := 58) rfl) f_MR_102 m70 rfl ?_
            refine v_iload_n (am_Dk d_MR_compound (k := 59) rfl) rfl ?_
            refine v_isub (am_Dk d_MR_compound (k := 60) rfl) ?_
            rw [nI_sub (by omega), show tp + i + 1 - tp = i + 1 from by omega]
            have hy9 : ∀ j, j < i + 1 → (fun j => if j = i then t19 else y j) j < sz23 ∧ (upd S21 (tp + i) (nI t19)) (tp + j) = nI ((fun j => if j = i then t19 else y j) j) := by
              intro j hj
              show (if j = i then t19 else y j) < _ ∧ _ = nI (if j = i then t19 else y j)
              by_cases hji : j = i
              · rw [if_pos hji, hji]
                exact ⟨by omega, upd_at _ _ _⟩
              · rw [if_neg hji]
                exact ⟨by have := (hy j (by omega)).1; omega, (upd_ne _ _ (by omega)).trans ((pe34_5 (tp + j) (by omega)).trans (hy j (by omega)).2)⟩
            obtain ⟨⟨Kd71, Nm71, Fi71, Ma71, Pa71, Nu71⟩, T71, F71, Va71, hX71⟩ := RS_fr (M1 := (am_up (am_up (am_up M16 1230 (.inl (1, 4200, .inl (upd S21 (tp + i) (nI t19))))) 1229 (.inl (0, 4096, .inl g66))) 1225 (.inr (12, [.ref 1226, .ref 1227, .ref 1228, .ref 1213, .ref 1220, .ref 1212, .int (nI n), .int (nI (tok f n ((tok f n a20).2.2.1)).2.1), .int (nI (tok f n ((tok f n a20).2.2.1)).2.2.1), .int tk63, .int (nI (o + 1)), .long nu64, .ref 1229, .int (nI l65), .ref 1230, .int (nI (tp + i + 1)), .int (-1), .ref 1231, .int (nI vb27), .int kn41, .int rk22, .ref 1232])))) hR44 (fun i hi => (am_up_ne (show i ≠ 1225 from by omega)).trans ((am_up_ne (show i ≠ 1229 from by omega)).trans ((am_up_ne (show i ≠ 1230 from by omega)).trans (rfl))))
            have m72 : (am_up (am_up (am_up M16 1230 (.inl (1, 4200, .inl (upd S21 (tp + i) (nI t19))))) 1229 (.inl (0, 4096, .inl g66))) 1225 (.inr (12, [.ref 1226, .ref 1227, .ref 1228, .ref 1213, .ref 1220, .ref 1212, .int (nI n), .int (nI (tok f n ((tok f n a20).2.2.1)).2.1), .int (nI (tok f n ((tok f n a20).2.2.1)).2.2.1), .int tk63, .int (nI (o + 1)), .long nu64, .ref 1229, .int (nI l65), .ref 1230, .int (nI (tp + i + 1)), .int (-1), .ref 1231, .int (nI vb27), .int kn41, .int rk22, .ref 1232]))) 1230 = some (.inl (1, 4200, .inl (upd S21 (tp + i) (nI t19)))) := (am_up_ne (show 1230 ≠ 1225 from by decide)).trans ((am_up_ne (show 1230 ≠ 1229 from by decide)).trans (am_up_eq _ _ _))
            refine v_callV (rest := []) (As := [.int (nI k), .ref 1230, .int (nI tp), .int (nI (i + 1))]) (mc' := 0) (ms' := 0) (am_Dk d_MR_compound (k := 61) rfl) c_MR_215 (Or.inl ⟨_, _, _, _, _, (RS_o1213 (RS_fr (M1 := (am_up (am_up (am_up M16 1230 (.inl (1, 4200, .inl (upd S21 (tp + i) (nI t19))))) 1229 (.inl (0, 4096, .inl g66))) 1225 (.inr (12, [.ref 1226, .ref 1227, .ref 1228, .ref 1213, .ref 1220, .ref 1212, .int (nI n), .int (nI (tok f n ((tok f n a20).2.2.1)).2.1), .int (nI (tok f n ((tok f n a20).2.2.1)).2.2.1), .int tk63, .int (nI (o + 1)), .long nu64, .ref 1229, .int (nI l65), .ref 1230, .int (nI (tp + i + 1)), .int (-1), .ref 1231, .int (nI vb27), .int kn41, .int rk22, .ref 1232])))) hR44 (fun i hi => (am_up_ne (show i ≠ 1225 from by omega)).trans ((am_up_ne (show i ≠ 1229 from by omega)).trans ((am_up_ne (show i ≠ 1230 from by omega)).trans (rfl)))))), cq_ok10⟩) (t_MT_compound G (d := 0) (c := i + 1) (fr := tp) (by omega) hX71.1 (by omega) m72 (by omega) (by omega) (by omega)) (by omega) (by omega) (by omega) (by simp [Value.category]) rfl (fun v73 M74 n75 h76 => ?_) (fun _ _ _ h76 => ?_)
            rotate_left
            · exact absurd h76.1 (by simp)
            obtain ⟨h76, hA77, hf78, ex9⟩ := h76
            cases h76
            replace ex9 := ex9.symm
            subst ex9
            have hR79 := RS_comp hX71 (k := k) (c := i + 1) (fr := tp) (y := (fun j => if j = i then t19 else y j)) (by omega) (by omega) hy9 hA77 hf78
            obtain ⟨W80, hW81⟩ : ∃ W9, W9 = gu W30 sz23 (if i + 1 = 1 then rk1 (On31 k) (W30.1 ((fun j => if j = i then t19 else y j) 0)).1 (W30.1 ((fun j => if j = i then t19 else y j) 0)).2 else if i + 1 = 2 then rk2 (On31 k) (W30.1 ((fun j => if j = i then t19 else y j) 0)).1 (W30.1 ((fun j => if j = i then t19 else y j) 0)).2 (W30.1 ((fun j => if j = i then t19 else y j) 1)).1 (W30.1 ((fun j => if j = i then t19 else y j) 1)).2 else (2, 0)) (if i + 1 = 2 then (On31 k, (fun j => if j = i then t19 else y j) 0, (fun j => if j = i then t19 else y j) 1) else (0, 0, 0)) none := ⟨_, rfl⟩
            rw [← hW81] at hR79
            have ge82 : gh_eq sz23 W30 W80 := by rw [hW81]; exact gu_eq _ _ _ _ _
            have at83 := gu_at W30 sz23 (if i + 1 = 1 then rk1 (On31 k) (W30.1 ((fun j => if j = i then t19 else y j) 0)).1 (W30.1 ((fun j => if j = i then t19 else y j) 0)).2 else if i + 1 = 2 then rk2 (On31 k) (W30.1 ((fun j => if j = i then t19 else y j) 0)).1 (W30.1 ((fun j => if j = i then t19 else y j) 0)).2 (W30.1 ((fun j => if j = i then t19 else y j) 1)).1 (W30.1 ((fun j => if j = i then t19 else y j) 1)).2 else (2, 0)) (if i + 1 = 2 then (On31 k, (fun j => if j = i then t19 else y j) 0, (fun j => if j = i then t19 else y j) 1) else (0, 0, 0)) none
            rw [← hW81] at at83
            have b84 : M74 1225 = some (.inr (12, [.ref 1226, .ref 1227, .ref 1228, .ref 1213, .ref 1220, .ref 1212, .int (nI n), .int (nI (tok f n ((tok f n a20).2.2.1)).2.1), .int (nI (tok f n ((tok f n a20).2.2.1)).2.2.1), .int tk63, .int (nI (o + 1)), .long nu64, .ref 1229, .int (nI l65), .ref 1230, .int (nI (tp + i + 1)), .int (-1), .ref 1231, .int (nI vb27), .int kn41, .int rk22, .ref 1232])) := (hf78 1225 (by omega)).trans (am_up_eq _ _ _)
            have b85 : M74 1229 = some (.inl (0, 4096, .inl g66)) := (hf78 1229 (by omega)).trans ((am_up_ne (show 1229 ≠ 1225 from by decide)).trans (am_up_eq _ _ _))
            have b86 : M74 1230 = some (.inl (1, 4200, .inl (upd S21 (tp + i) (nI t19)))) := (hf78 1230 (by omega)).trans ((am_up_ne (show 1230 ≠ 1225 from by decide)).trans ((am_up_ne (show 1230 ≠ 1229 from by decide)).trans (am_up_eq _ _ _)))
            have b87 : M74 1232 = some (.inl (0, 4096, .inl kc46)) := (hf78 1232 (by omega)).trans ((am_up_ne (show 1232 ≠ 1225 from by decide)).trans ((am_up_ne (show 1232 ≠ 1229 from by decide)).trans ((am_up_ne (show 1232 ≠ 1230 from by decide)).trans (hk47))))
            have hm88 : mb f M74 := mb_fr hm43 (fun i hi => (hf78 i (by omega)).trans ((am_up_ne (show i ≠ 1225 from by omega)).trans ((am_up_ne (show i ≠ 1229 from by omega)).trans ((am_up_ne (show i ≠ 1230 from by omega)).trans (rfl)))))
            have fr89 : pf_fr M M74 := fun i hi => (hf78 i (by omega)).trans ((am_up_ne (show i ≠ 1225 from by omega)).trans ((am_up_ne (show i ≠ 1229 from by omega)).trans ((am_up_ne (show i ≠ 1230 from by omega)).trans ((fr52 i hi)))))
            have hR90 : RS LU M74 (sz23 + 1) (pt24 + i + 1) ns25 tx26 vb27 e128 e229 W80 On31 Vx32 := ⟨_, _, _, _, hR79⟩
            show am_V G _ _ _ _ _ 112 [(3, .int (nI t19)), (1, .int (nI k)), (2, .int (nI tp)), (0, .ref 1225)] [.int (nI sz23)] M74 nx 0 0
            refine v_istore_n (L1 := [(3, .int (nI sz23)), (1, .int (nI k)), (2, .int (nI tp)), (0, .ref 1225)]) (am_Dk d_MR_compound (k := 62) rfl) (by decide) rfl ?_
            refine v_aload_n (am_Dk d_MR_compound (k := 63) rfl) rfl ?_
            refine v_iload_n (am_Dk d_MR_compound (k := 64) rfl) rfl ?_
            refine v_put (am_Dk d_MR_compound (k := 65) rfl) f_MR_102 b84 (Nat.le_of_ble_eq_true rfl) rfl rfl ?_
            refine v_aload_n (am_Dk d_MR_compound (k := 66) rfl) rfl ?_
            refine v_iconst (v := 0) (am_Dk d_MR_compound (k := 67) rfl) (by decide) ?_
            have m91 : (am_up M74 1225 (.inr (12, [.ref 1226, .ref 1227, .ref 1228, .ref 1213, .ref 1220, .ref 1212, .int (nI n), .int (nI (tok f n ((tok f n a20).2.2.1)).2.1), .int (nI (tok f n ((tok f n a20).2.2.1)).2.2.1), .int tk63, .int (nI (o + 1)), .long nu64, .ref 1229, .int (nI l65), .ref 1230, .int (nI tp), .int (-1), .ref 1231, .int (nI vb27), .int kn41, .int rk22, .ref 1232]))) 1225 = some (.inr (12, [.ref 1226, .ref 1227, .ref 1228, .ref 1213, .ref 1220, .ref 1212, .int (nI n), .int (nI (tok f n ((tok f n a20).2.2.1)).2.1), .int (nI (tok f n ((tok f n a20).2.2.1)).2.2.1), .int tk63, .int (nI (o + 1)), .long nu64, .ref 1229, .int (nI l65), .ref 1230, .int (nI tp), .int (-1), .ref 1231, .int (nI vb27), .int kn41, .int rk22, .ref 1232])) := am_up_eq _ _ _
            refine v_put (am_Dk d_MR_compound (k := 68) rfl) f_MR_204 m91 (Nat.le_of_ble_eq_true rfl) rfl rfl ?_
            rw [am_uu0 (a := 1225)]
            refine v_iload_n (am_Dk d_MR_compound (k := 69) rfl) rfl ?_
            have hyi : (fun j => if j = i then t19 else y j) i = t19 := if_pos rfl
            rcases tr35 with ⟨wT, roT, L9, R9, hTO, hOp, hro, hch⟩ | ⟨hk10, _⟩
            rotate_left
            · omega
            have hD : sz23 + 1 - sz = (sz2 - sz) + (sz23 - sz2) + 1 := by omega
            have hfi9 : 1 ≤ i → OpN f n W30 ((fun j => if j = i then t19 else y j) 0) fi := by
              intro hi1
              show OpN f n _ (if 0 = i then t19 else y 0) _
              rw [if_neg (by omega)]
              exact OpN_ext (hfi hi1) pe34_2 (hy 0 (by omega)).1
            have hkO9 : On31 k = (tok f n a).2.2.2.2 := (pe34_4 k hkn).trans hkO
            have hcw := cmp_w (c := i + 1) (o9 := (tok f n a).2.2.2.2) (y := fun j => if j = i then t19 else y j) (w := wT) (fi := fi) rfl (show OpN f n W30 ((fun j => if j = i then t19 else y j) i) wT from by rw [hyi]; exact hOp) hfi9
            have hat1 := at83.1
            rw [hkO9, hcw] at hat1
            have hat2 := at83.2.1
            rw [hkO9] at hat2
            have hat3 := at83.2.2
            have hTE := q_argE hAR hTO ee36.2 hk4 hi8
            rw [← hD] at hTE
            have hres : TRes f n lu o mo a sz W80 (tok f n a20).2.2.1 0 (sz23 + 1) sz23 := by
              refine Or.inl ⟨_, _, _, _, hTE, ⟨hat1.trans ?_, ?_⟩, ?_, fun hr0 => ?_⟩
              · rfl
              · rw [hat3]
                exact (by decide : ¬ (0 : Int32) < 0)
              · rw [hat2]
                by_cases hi1 : i = 1
                · rw [if_pos (by omega), if_pos hi1]
                · rw [if_neg (by omega), if_neg hi1]
              · have hi1 : i = 1 := Classical.byContradiction (fun z => hr0 (if_neg z))
                rw [hat2, if_pos (by omega)]
                refine ⟨?_, ?_, OpN_ext (hfi9 (by omega)) ge82 (hy9 0 (by omega)).1, ?_⟩
                · have := (hy9 0 (by omega)).1
                  exact Nat.lt_succ_of_lt this
                · have := (hy9 1 (by omega)).1
                  exact Nat.lt_succ_of_lt this
                · have e1 : (fun j => if j = i then t19 else y j) 1 = t19 := if_pos hi1.symm
                  show OpN f n _ ((fun j => if j = i then t19 else y j) 1) _
                  rw [e1]
                  exact OpN_ext hOp ge82 (by omega)
            exact v_ireturn (am_Dk d_MR_compound (k := 70) rfl) rfl rfl (by omega) (by omega) ⟨rfl, (fun i hi => (am_up_ne (show i ≠ 1225 from by omega)).trans ((fr89 i hi))), Or.inl ⟨sz23, ((tok f n a20).2.2.1), (upd S21 (tp + i) (nI t19)), 0, (sz23 + 1), (pt24 + (i + 1)), ns25, tx26, vb27, e128, e229, W80, On31, Vx32, rfl, (show PS f n LU (am_up M74 1225 (.inr (12, [.ref 1226, .ref 1227, .ref 1228, .ref 1213, .ref 1220, .ref 1212, .int (nI n), .int (nI (tok f n ((tok f n a20).2.2.1)).2.1), .int (nI (tok f n ((tok f n a20).2.2.1)).2.2.1), .int tk63, .int (nI (o + 1)), .long nu64, .ref 1229, .int (nI l65), .ref 1230, .int (nI tp), .int (-1), .ref 1231, .int (nI vb27), .int kn41, .int 0, .ref 1232]))) ((tok f n a20).2.2.1) (o + 1) tp (upd S21 (tp + i) (nI t19)) 0 (sz23 + 1) (pt24 + (i + 1)) ns25 tx26 vb27 e128 e229 W80 On31 Vx32 from ⟨⟨by omega, by omega, by omega, by omega, by omega, by omega, by omega, by omega, by omega, by omega⟩, mb_fr hm88 (fun i hi => (am_up_ne (show i ≠ 1225 from by omega)).trans (rfl)), RS_fr hR90 (fun i hi => (am_up_ne (show i ≠ 1225 from by omega)).trans (rfl)), (am_up_ne (show 1230 ≠ 1225 from by decide)).trans (b86), ⟨_, (am_up_ne (show 1232 ≠ 1225 from by decide)).trans (b87)⟩, tk63, nu64, l65, g66, kn41, am_up_eq _ _ _, hs68, (am_up_ne (show 1229 ≠ 1225 from by decide)).trans (b85), hg69⟩), ⟨by omega, by omega, gh_trans (gh_trans hge pe34_2 (by omega)) ge82 (by omega), by omega, fun j hj => (pe34_4 j (by omega)).trans (hOn j hj), fun j hj => (upd_ne _ _ (by omega)).trans ((pe34_5 j (by omega)).trans (hSt j hj)), by omega, by omega, by omega⟩, hres, trivial⟩⟩
          · have hk4 : ¬ (tok f n a20).1 = 4 := fun z => c56 ((tkR_eq hs49.1 (by omega)).2.1.mpr z)
            refine v_aload_n (am_Dk d_MR_compound (k := 44) rfl) rfl ?_
            refine v_aload_n (am_Dk d_MR_compound (k := 45) rfl) rfl ?_
            refine v_get (am_Dk d_MR_compound (k := 46) rfl) f_MR_116 m54 rfl ?_
            refine v_callV (rest := []) (As := [.int (nI ((tok f n a20).2.1))]) (mc' := 0) (ms' := 0) (am_Dk d_MR_compound (k := 47) rfl) c_MR_126 (Or.inl ⟨_, _, _, _, _, m54, cq_ok12⟩) (t_MR_bad G (d := 0) (by omega) m54) (by omega) (by omega) (by omega) (by simp [Value.category]) rfl (fun v92 M93 n94 h95 => ?_) (fun _ _ _ h95 => ?_)
            rotate_left
            · exact absurd h95.1 (by simp)
            obtain ⟨h95, e96, e97⟩ := h95
            replace e96 := e96.symm
            replace e97 := e97.symm
            subst e96
            subst e97
            cases h95
            rw [am_uu1 (a := 1225)]
            show am_V G _ _ _ _ _ 88 [(3, .int (nI t19)), (1, .int (nI k)), (2, .int (nI tp)), (0, .ref 1225)] [.ref 1228] (am_up (am_up M16 1230 (.inl (1, 4200, .inl (upd S21 (tp + i) (nI t19))))) 1225 (.inr (12, [.ref 1226, .ref 1227, .ref 1228, .ref 1213, .ref 1220, .ref 1212, .int (nI n), .int (nI ((tok f n a20).2.1)), .int (nI ((tok f n a20).2.2.1)), .int tk37, .int (nI (o + 1)), .long nu38, .ref 1229, .int (nI l39), .ref 1230, .int (nI (tp + i + 1)), .int (nI ((tok f n a20).2.1)), .ref 1231, .int (nI vb27), .int kn41, .int rk22, .ref 1232]))) nx 0 0
            refine v_athrow (am_Dk d_MR_compound (k := 48) rfl) ?_
            have hB9 : TBad f n lu o mo a (tok f n a20).2.1 := by
              rcases tr35 with ⟨wT, roT, L9, R9, hTO, hOp, hro, hch⟩ | ⟨hk10, hTB⟩
              · exact q_argN hn hAR hTO ee36.2 hk7 hk4
              · exact q_rowB hAR hTB
            exact vt_leave (fun q hq => by cases hq) (by omega) (by omega) ⟨rfl, (fun i hi => (am_up_ne (show i ≠ 1225 from by omega)).trans ((am_up_ne (show i ≠ 1230 from by omega)).trans ((fr52 i hi)))), Or.inr ⟨(tok f n a20).2.1, rfl, (show PX f n (am_up (am_up M16 1230 (.inl (1, 4200, .inl (upd S21 (tp + i) (nI t19))))) 1225 (.inr (12, [.ref 1226, .ref 1227, .ref 1228, .ref 1213, .ref 1220, .ref 1212, .int (nI n), .int (nI ((tok f n a20).2.1)), .int (nI ((tok f n a20).2.2.1)), .int tk37, .int (nI (o + 1)), .long nu38, .ref 1229, .int (nI l39), .ref 1230, .int (nI (tp + i + 1)), .int (nI ((tok f n a20).2.1)), .ref 1231, .int (nI vb27), .int kn41, .int rk22, .ref 1232]))) ((tok f n a20).2.1) from ⟨by omega, RS_rx (mb_fr hm43 (fun i hi => (am_up_ne (show i ≠ 1225 from by omega)).trans ((am_up_ne (show i ≠ 1230 from by omega)).trans (rfl)))) (RS_fr hR44 (fun i hi => (am_up_ne (show i ≠ 1225 from by omega)).trans ((am_up_ne (show i ≠ 1230 from by omega)).trans (rfl)))) ((am_up_ne (show 1229 ≠ 1225 from by decide)).trans ((am_up_ne (show 1229 ≠ 1230 from by decide)).trans (hw50))) hg51 ((am_up_ne (show 1230 ≠ 1225 from by decide)).trans (am_up_eq _ _ _)) ⟨_, (am_up_ne (show 1232 ≠ 1225 from by decide)).trans ((am_up_ne (show 1232 ≠ 1230 from by decide)).trans (hk47))⟩, _, _, _, _, _, _, _, _, _, _, am_up_eq _ _ _⟩), hB9⟩⟩
      · exact absurd ((nI_eq (a := i) (b := 8) (by omega) (by omega)).mp c13) (by omega)
  refine v_aload_n (am_Dk d_MR_compound (k := 0) rfl) rfl ?_
  obtain ⟨⟨Kd1, Nm1, Fi1, Ma1, Pa1, Nu1⟩, T1, F1, Va1, hX1⟩ := RS_fr (M1 := M) hR (fun i hi => rfl)
  refine v_callV (rest := []) (As := []) (mc' := 0) (ms' := 0) (am_Dk d_MR_compound (k := 1) rfl) c_MR_212 (Or.inl ⟨_, _, _, _, _, hr, cq_ok12⟩) (t_MR_name G (d := 2) (le := 0) (l := l) (by omega) hr hw hg (by omega) hX1 (by omega) (by omega)) (by omega) (by omega) (by omega) (by simp [Value.category]) rfl (fun v2 M3 n4 h5 => ?_) (fun _ _ _ h5 => ?_)
  rotate_left
  · obtain ⟨_, _, _, _, _, _, hx9, _⟩ := h5; cases hx9
  obtain ⟨k6, ns7, tx8, On9, T9, F9, h5, ex9, q101, q102, q103, q104, q105, q106, q107⟩ := h5
  cases h5
  replace ex9 := ex9.symm
  subst ex9
  have b11 : M3 1225 = some (.inr (12, [.ref 1226, .ref 1227, .ref 1228, .ref 1213, .ref 1220, .ref 1212, .int (nI n), .int (nI ((tok f n a).2.1)), .int (nI ((tok f n a).2.2.1)), .int tk, .int (nI (o + 1)), .long nu, .ref 1229, .int (nI l), .ref 1230, .int (nI tp), .int (-1), .ref 1231, .int (nI vb), .int kn, .int rk, .ref 1232])) := (q107 1225 (by omega)).trans (hr)
  have b12 : M3 1229 = some (.inl (0, 4096, .inl g)) := (q107 1229 (by omega)).trans (hw)
  have b13 : M3 1230 = some (.inl (1, 4200, .inl S)) := (q107 1230 (by omega)).trans (hS)
  have b14 : M3 1232 = some (.inl (0, 4096, .inl kc)) := (q107 1232 (by omega)).trans (hkc)
  have hm15 : mb f M3 := mb_fr hm (fun i hi => (q107 i (by omega)).trans (rfl))
  have fr16 : pf_fr M M3 := fun i hi => (q107 i (by omega)).trans ((fr0 i hi))
  have hR17 : RS LU M3 sz pt ns7 tx8 vb e1 e2 W On9 Vx := ⟨_, _, _, _, q101⟩
  show am_V G _ _ _ _ _ 4 [(0, .ref 1225)] [.int (nI k6)] M3 nx 0 0
  refine v_istore_n (L1 := [(1, .int (nI k6)), (0, .ref 1225)]) (am_Dk d_MR_compound (k := 2) rfl) (by decide) rfl ?_
  refine v_aload_n (am_Dk d_MR_compound (k := 3) rfl) rfl ?_
  refine v_callV (rest := []) (As := []) (mc' := 0) (ms' := 0) (am_Dk d_MR_compound (k := 4) rfl) c_MR_113 (Or.inl ⟨_, _, _, _, _, b11, cq_ok12⟩) (t_MR_scan G (d := 5) (be := 0) (a := (tok f n a).2.2.1) (by omega) b11 hm15.1 hn hb (by omega) b12 hg) (by omega) (by omega) (by omega) (by simp [Value.category]) rfl (fun v18 M19 n20 h21 => ?_) (fun _ _ _ h21 => ?_)
  rotate_left
  · obtain ⟨_, _, _, _, hx9, _⟩ := h21; cases hx9
  obtain ⟨tk22, nu23, l24, g25, h21, ex9, e26, hs27, hg28⟩ := h21
  replace e26 := e26.symm
  replace ex9 := ex9.symm
  subst e26
  subst ex9
  cases h21
  have k_hs27 := tok_ok f (show (tok f n a).2.2.1 ≤ n from by omega)
  have p_hs27 := tok_pos f (show (tok f n a).2.2.1 ≤ n from by omega)
  have l_hs27 := hs27.2.2.1
  show am_V G _ _ _ _ _ 9 [(1, .int (nI k6)), (0, .ref 1225)] [] (am_up (am_up M3 1229 (.inl (0, 4096, .inl g25))) 1225 (.inr (12, [.ref 1226, .ref 1227, .ref 1228, .ref 1213, .ref 1220, .ref 1212, .int (nI n), .int (nI (tok f n ((tok f n a).2.2.1)).2.1), .int (nI (tok f n ((tok f n a).2.2.1)).2.2.1), .int tk22, .int (nI (o + 1)), .long nu23, .ref 1229, .int (nI l24), .ref 1230, .int (nI tp), .int (-1), .ref 1231, .int (nI vb), .int kn, .int rk, .ref 1232]))) nx 0 0
  refine v_aload_n (am_Dk d_MR_compound (k := 5) rfl) rfl ?_
  have m29 : (am_up (am_up M3 1229 (.inl (0, 4096, .inl g25))) 1225 (.inr (12, [.ref 1226, .ref 1227, .ref 1228, .ref 1213, .ref 1220, .ref 1212, .int (nI n), .int (nI (tok f n ((tok f n a).2.2.1)).2.1), .int (nI (tok f n ((tok f n a).2.2.1)).2.2.1), .int tk22, .int (nI (o + 1)), .long nu23, .ref 1229, .int (nI l24), .ref 1230, .int (nI tp), .int (-1), .ref 1231, .int (nI vb), .int kn, .int rk, .ref 1232]))) 1225 = some (.inr (12, [.ref 1226, .ref 1227, .ref 1228, .ref 1213, .ref 1220, .ref 1212, .int (nI n), .int (nI (tok f n ((tok f n a).2.2.1)).2.1), .int (nI (tok f n ((tok f n a).2.2.1)).2.2.1), .int tk22, .int (nI (o + 1)), .long nu23, .ref 1229, .int (nI l24), .ref 1230, .int (nI tp), .int (-1), .ref 1231, .int (nI vb), .int kn, .int rk, .ref 1232])) := am_up_eq _ _ _
  refine v_get (am_Dk d_MR_compound (k := 6) rfl) f_MR_102 m29 rfl ?_
  refine v_istore_n (L1 := [(2, .int (nI tp)), (1, .int (nI k6)), (0, .ref 1225)]) (am_Dk d_MR_compound (k := 7) rfl) (by decide) rfl ?_
  have hA0 : ARg f n lu o mo a 4 (tok f n a).2.2.2.2 0 (sz - sz) (tok f n (tok f n a).2.2.1).2.2.1 (0, 0, 0, 0) := by rw [Nat.sub_self]; exact q_arg0 (by omega) hk2 hop.1 hop.2 ho1
  exact v_drop (h14 8 0 _ k6 _ _ _ _ _ _ _ _ _ _ _ _ _ (0, 0, 0, 0) (fun _ => 0) (by omega) (show PS f n LU (am_up (am_up M3 1229 (.inl (0, 4096, .inl g25))) 1225 (.inr (12, [.ref 1226, .ref 1227, .ref 1228, .ref 1213, .ref 1220, .ref 1212, .int (nI n), .int (nI (tok f n ((tok f n a).2.2.1)).2.1), .int (nI (tok f n ((tok f n a).2.2.1)).2.2.1), .int tk22, .int (nI (o + 1)), .long nu23, .ref 1229, .int (nI l24), .ref 1230, .int (nI (tp + 0)), .int (-1), .ref 1231, .int (nI vb), .int kn, .int rk, .ref 1232]))) ((tok f n a).2.2.1) (o + 1) tp S rk sz pt ns7 tx8 vb e1 e2 W On9 Vx from ⟨⟨by omega, by omega, by omega, by omega, by omega, by omega, by omega, by omega, by omega, by omega⟩, mb_fr hm15 (fun i hi => (am_up_ne (show i ≠ 1225 from by omega)).trans ((am_up_ne (show i ≠ 1229 from by omega)).trans (rfl))), RS_fr hR17 (fun i hi => (am_up_ne (show i ≠ 1225 from by omega)).trans ((am_up_ne (show i ≠ 1229 from by omega)).trans (rfl))), (am_up_ne (show 1230 ≠ 1225 from by decide)).trans ((am_up_ne (show 1230 ≠ 1229 from by decide)).trans (b13)), ⟨_, (am_up_ne (show 1232 ≠ 1225 from by decide)).trans ((am_up_ne (show 1232 ≠ 1229 from by decide)).trans (b14))⟩, tk22, nu23, l24, g25, kn, am_up_eq _ _ _, hs27, (am_up_ne (show 1229 ≠ 1225 from by decide)).trans (am_up_eq _ _ _), hg28⟩) (fun i hi => (am_up_ne (show i ≠ 1225 from by omega)).trans ((am_up_ne (show i ≠ 1229 from by omega)).trans ((fr16 i hi)))) (by rw [hop.2]; decide) (Nat.le_refl _) (gh_refl _ _) (by omega) q105 (fun _ _ => rfl) q102 (q103.trans hsp) (by omega) (by omega) (fun j hj => absurd hj (by omega)) (fun z => absurd z (by omega)) (Or.inl ⟨by omega, hA0⟩)) (by simp)
