/-! THE REFERENCE'S PARSER: TERMS (mine; rows laid by the walker) -/
theorem sp_comma {g : Nat → Int32} : spg 1 (upd g 0 44) = 0 := by
  rcases spg_of 1 (upd g 0 44) with h | ⟨h1, h2, h3⟩
  · exact h
  · exfalso
    have h3 := of_decide_eq_true h3
    have e := h3.2 0 (by omega)
    rw [show upd g 0 44 0 = 44 from if_pos rfl] at e
    have hlt := kn_lt128 _ h2 0 (by omega)
    have e := (nI_eq (b := 44) (by omega) (by omega)).mp e
    have : ∀ k, k < 26 → (kn_w k).length = 1 → ¬ (kn_w k).getD 0 0 = 44 := by decide +kernel
    exact this _ h2 h3.1 e
theorem rank_v {f : Nat → Int32} {n a : Nat} {tk : Int32} {nu : Int64} {l : Nat} {g : Nat → Int32} (ha : a ≤ n) (h : scT f (tok f n a) tk nu l g) : (if tk = 10 then 1000 else if tk = 3 then rkN (spg l g) else -1) = rkN (tok f n a).2.2.2.2 := by
  have t := tok_ok f ha
  obtain ⟨e10, e5, e7, e11, e0, e13, e2, e3⟩ := tkR_eq h.1 t.1
  by_cases h7 : (tok f n a).1 = 7
  · rw [if_pos (e10.mpr h7), tok_nm7 f h7]
    decide
  · rw [if_neg (fun z => h7 (e10.mp z))]
    by_cases h2 : (tok f n a).1 = 2
    · rw [if_pos (e3.mpr h2), (h.2.2.2.2 h2).2]
    · rw [if_neg (fun z => h2 (e3.mp z)), tok_nm f h2 h7]
      decide
theorem rkN_c (k : Nat) (hk : k < 26) : (rkN k = -1 ∧ ¬ 0 < kn_inf k) ∨ (rkN k = kn_inf k ∧ 0 < kn_inf k ∧ ((kn_inf k = 500 ∨ kn_inf k = 400) → kn_inf k = kn_ml k) ∧ (¬ (kn_inf k = 500 ∨ kn_inf k = 400) → kn_inf k - 1 = kn_ml k) ∧ ((kn_inf k = 1100 ∨ kn_inf k = 1050 ∨ kn_inf k = 1000) → kn_inf k = kn_mr k) ∧ (¬ (kn_inf k = 1100 ∨ kn_inf k = 1050 ∨ kn_inf k = 1000) → kn_inf k - 1 = kn_mr k) ∧ 200 ≤ kn_mr k) := by
  have : ∀ k, k < 26 → (rkN k = -1 ∧ ¬ 0 < kn_inf k) ∨ (rkN k = kn_inf k ∧ 0 < kn_inf k ∧ ((kn_inf k = 500 ∨ kn_inf k = 400) → kn_inf k = kn_ml k) ∧ (¬ (kn_inf k = 500 ∨ kn_inf k = 400) → kn_inf k - 1 = kn_ml k) ∧ ((kn_inf k = 1100 ∨ kn_inf k = 1050 ∨ kn_inf k = 1000) → kn_inf k = kn_mr k) ∧ (¬ (kn_inf k = 1100 ∨ kn_inf k = 1050 ∨ kn_inf k = 1000) → kn_inf k - 1 = kn_mr k) ∧ 200 ≤ kn_mr k) := by decide +kernel
  exact this k hk
theorem rk2_1 (a b : Int32) (v w : Int64) : rk2 1 a v b w = (2, 0) := by rw [rk2, if_neg (by decide)]
theorem c_end0 {f : Nat → Int32} {n a : Nat} {mo r : Int32} (h : (tok f n a).1 = 10 ∨ (tok f n a).1 = 11) : c_end f n mo a r := by
  rw [c_end, tok_nm f (by omega) (by omega)]
  exact fun z => absurd z.1 (by decide)
set_option maxRecDepth 20000 in
set_option maxHeartbeats 4000000 in
theorem t_term (G : am_G) {f : Nat → Int32} {n : Nat} {LU : Nat → (Nat → Int32) → Option Int64} {lu : Nat → Nat → Option Int64} (hb : tbB f) (hn : n ≤ 4096) (hU : luOk f n LU lu) : ∀ N o, o + N = 100 → TermC G f n LU lu o (4 * N + 9) := by
  intro N
  induction N with
  | zero =>
    intro o hoN nx M mo a tp S rk sz pt ns tx vb e1 e2 W On Vx h h200
    refine am_TrOf (by decide) (Nat.le_of_ble_eq_true rfl) ?_
    show am_V G _ _ _ _ _ 0 [(0, .ref 1225), (1, .int mo)] [] M nx 0 0
    obtain ⟨hpb, hm, hR, hS, ⟨kc, hkc⟩, tk, nu, l, g, kn, hr, hsc, hw, hg⟩ := h
    replace hr : M 1225 = some (.inr (12, [.ref 1226, .ref 1227, .ref 1228, .ref 1213, .ref 1220, .ref 1212, .int (nI n), .int (nI ((tok f n a).2.1)), .int (nI ((tok f n a).2.2.1)), .int tk, .int (nI o), .long nu, .ref 1229, .int (nI l), .ref 1230, .int (nI tp), .int (-1), .ref 1231, .int (nI vb), .int kn, .int rk, .ref 1232])) := hr
    obtain ⟨pb_0, pb_1, pb_2, pb_3, pb_4, pb_5, pb_6, pb_7, pb_8, pb_9⟩ := hpb
    have k_hsc := tok_ok f pb_0
    have p_hsc := tok_pos f pb_0
    have l_hsc := hsc.2.2.1
    have fr0 : pf_fr M M := fun i hi => rfl
    refine v_aload_n (am_Dk d_MR_term (k := 0) rfl) rfl ?_
    refine v_get (am_Dk d_MR_term (k := 1) rfl) f_MR_99 hr rfl ?_
    refine v_bipush (v := 100) (am_Dk d_MR_term (k := 2) rfl) (by decide) ?_
    refine v_icmp_ne (tgt := 18) (am_Dk d_MR_term (k := 3) rfl) (by decide) (fun c1 => ?_) (fun c1 => ?_)
    · exact absurd (show nI o = 100 from by rw [show o = 100 from by omega]; rfl) c1
    · have Nc1 := (nI_eq (a := o) (b := 100) (by omega) (by omega)).mp c1
      refine v_aload_n (am_Dk d_MR_term (k := 4) rfl) rfl ?_
      refine v_aload_n (am_Dk d_MR_term (k := 5) rfl) rfl ?_
      refine v_get (am_Dk d_MR_term (k := 6) rfl) f_MR_116 hr rfl ?_
      refine v_callV (rest := []) (As := [.int (nI ((tok f n a).2.1))]) (mc' := 0) (ms' := 0) (am_Dk d_MR_term (k := 7) rfl) c_MR_126 (Or.inl ⟨_, _, _, _, _, hr, cq_ok12⟩) (t_MR_bad G (d := 0) (by omega) hr) (by omega) (by omega) (by omega) (by simp [Value.category]) rfl (fun v2 M3 n4 h5 => ?_) (fun _ _ _ h5 => ?_)
      rotate_left
      · exact absurd h5.1 (by simp)
      obtain ⟨h5, e6, e7⟩ := h5
      replace e6 := e6.symm
      replace e7 := e7.symm
      subst e6
      subst e7
      cases h5
      show am_V G _ _ _ _ _ 17 [(0, .ref 1225), (1, .int mo)] [.ref 1228] (am_up M 1225 (.inr (12, [.ref 1226, .ref 1227, .ref 1228, .ref 1213, .ref 1220, .ref 1212, .int (nI n), .int (nI ((tok f n a).2.1)), .int (nI ((tok f n a).2.2.1)), .int tk, .int (nI o), .long nu, .ref 1229, .int (nI l), .ref 1230, .int (nI tp), .int (nI ((tok f n a).2.1)), .ref 1231, .int (nI vb), .int kn, .int rk, .ref 1232]))) nx 0 0
      refine v_athrow (am_Dk d_MR_term (k := 8) rfl) ?_
      exact vt_leave (fun q hq => by cases hq) (by omega) (by omega) ⟨rfl, (fun i hi => (am_up_ne (show i ≠ 1225 from by omega)).trans ((fr0 i hi))), Or.inr ⟨(tok f n a).2.1, rfl, (show PX f n (am_up M 1225 (.inr (12, [.ref 1226, .ref 1227, .ref 1228, .ref 1213, .ref 1220, .ref 1212, .int (nI n), .int (nI ((tok f n a).2.1)), .int (nI ((tok f n a).2.2.1)), .int tk, .int (nI o), .long nu, .ref 1229, .int (nI l), .ref 1230, .int (nI tp), .int (nI ((tok f n a).2.1)), .ref 1231, .int (nI vb), .int kn, .int rk, .ref 1232]))) ((tok f n a).2.1) from ⟨by omega, RS_rx (mb_fr hm (fun i hi => (am_up_ne (show i ≠ 1225 from by omega)).trans (rfl))) (RS_fr hR (fun i hi => (am_up_ne (show i ≠ 1225 from by omega)).trans (rfl))) ((am_up_ne (show 1229 ≠ 1225 from by decide)).trans (hw)) hg ((am_up_ne (show 1230 ≠ 1225 from by decide)).trans (hS)) ⟨_, (am_up_ne (show 1232 ≠ 1225 from by decide)).trans (hkc)⟩, _, _, _, _, _, _, _, _, _, _, am_up_eq _ _ _⟩), (Or.inl ⟨by omega, rfl⟩)⟩⟩
  | succ N ih =>
    intro o hoN nx M mo a tp S rk sz pt ns tx vb e1 e2 W On Vx h h200
    have IH := ih (o + 1) (by omega)
    have ho : o < 100 := by omega
    refine am_TrOf (by decide) (Nat.le_of_ble_eq_true rfl) ?_
    show am_V G _ _ _ _ _ 0 [(0, .ref 1225), (1, .int mo)] [] M nx 0 0
    obtain ⟨hpb, hm, hR, hS, ⟨kc, hkc⟩, tk, nu, l, g, kn, hr, hsc, hw, hg⟩ := h
    replace hr : M 1225 = some (.inr (12, [.ref 1226, .ref 1227, .ref 1228, .ref 1213, .ref 1220, .ref 1212, .int (nI n), .int (nI ((tok f n a).2.1)), .int (nI ((tok f n a).2.2.1)), .int tk, .int (nI o), .long nu, .ref 1229, .int (nI l), .ref 1230, .int (nI tp), .int (-1), .ref 1231, .int (nI vb), .int kn, .int rk, .ref 1232])) := hr
    obtain ⟨pb_0, pb_1, pb_2, pb_3, pb_4, pb_5, pb_6, pb_7, pb_8, pb_9⟩ := hpb
    have k_hsc := tok_ok f pb_0
    have p_hsc := tok_pos f pb_0
    have l_hsc := hsc.2.2.1
    have fr0 : pf_fr M M := fun i hi => rfl
    have h233 : ∀ (M2 : am_M) (aC : Nat) (S2 : Nat → Int32) (rkF : Int32) (sz2 pt2 ns2 tx2 vb2 f1 f2 : Nat) (W2 : Gho) (On2 : Nat → Nat) (Vx2 : Nat → Option (Nat × (Nat → Int32))) (t : Nat) (r : Int32), PS f n LU M2 aC (o + 1) tp S2 rkF sz2 pt2 ns2 tx2 vb2 f1 f2 W2 On2 Vx2 → pf_fr M M2 → pext a tp sz pt ns S W On t aC S2 sz2 pt2 ns2 W2 On2 → TRes f n lu o mo a sz W2 aC r sz2 t → c_end f n mo aC r → am_V G m_MR_term (4 * (N + 1) + 9) 0 0 (RQ f n LU lu M nx o mo a o tp S sz pt ns W On (fun a' rk' => o < 100 ∧ c_end f n mo a' rk') (fun w => (o = 100 ∧ w = (tok f n a).2.1) ∨ (o < 100 ∧ TBad f n lu o mo a w))) 233 [(3, .int r), (2, .int (nI t)), (1, .int mo), (0, .ref 1225)] [] M2 nx 0 0 := by
      intro M2 aC S2 rkF sz2 pt2 ns2 tx2 vb2 f1 f2 W2 On2 Vx2 t r h2 fr2 hpx hTR hce
      obtain ⟨hpb2, hm2, hR2, hS2, ⟨kc2, hkc2⟩, tk2, nu2, l2, g2, kn2, hr2, hsc2, hw2, hg2⟩ := h2
      replace hr2 : M2 1225 = some (.inr (12, [.ref 1226, .ref 1227, .ref 1228, .ref 1213, .ref 1220, .ref 1212, .int (nI n), .int (nI ((tok f n aC).2.1)), .int (nI ((tok f n aC).2.2.1)), .int tk2, .int (nI (o + 1)), .long nu2, .ref 1229, .int (nI l2), .ref 1230, .int (nI tp), .int (-1), .ref 1231, .int (nI vb2), .int kn2, .int rkF, .ref 1232])) := hr2
      obtain ⟨qb_0, qb_1, qb_2, qb_3, qb_4, qb_5, qb_6, qb_7, qb_8, qb_9⟩ := hpb2
      obtain ⟨px_0, px_1, px_2, px_3, px_4, px_5, px_6, px_7, px_8⟩ := hpx
      have k_C := tok_ok f qb_0
      have p_C := tok_pos f qb_0
      have l_C := hsc2.2.2.1
      refine v_aload_n (am_Dk d_MR_term (k := 119) rfl) rfl ?_
      refine v_dup (am_Dk d_MR_term (k := 120) rfl) rfl ?_
      refine v_get (am_Dk d_MR_term (k := 121) rfl) f_MR_99 hr2 rfl ?_
      refine v_iconst (v := 1) (am_Dk d_MR_term (k := 122) rfl) (by decide) ?_
      refine v_isub (am_Dk d_MR_term (k := 123) rfl) ?_
      rw [show (nI (o + 1) - 1 : Int32) = nI o from nI_pred o]
      refine v_put (am_Dk d_MR_term (k := 124) rfl) f_MR_99 hr2 (Nat.le_of_ble_eq_true rfl) rfl rfl ?_
      refine v_aload_n (am_Dk d_MR_term (k := 125) rfl) rfl ?_
      refine v_iload_n (am_Dk d_MR_term (k := 126) rfl) rfl ?_
      have m1 : (am_up M2 1225 (.inr (12, [.ref 1226, .ref 1227, .ref 1228, .ref 1213, .ref 1220, .ref 1212, .int (nI n), .int (nI ((tok f n aC).2.1)), .int (nI ((tok f n aC).2.2.1)), .int tk2, .int (nI o), .long nu2, .ref 1229, .int (nI l2), .ref 1230, .int (nI tp), .int (-1), .ref 1231, .int (nI vb2), .int kn2, .int rkF, .ref 1232]))) 1225 = some (.inr (12, [.ref 1226, .ref 1227, .ref 1228, .ref 1213, .ref 1220, .ref 1212, .int (nI n), .int (nI ((tok f n aC).2.1)), .int (nI ((tok f n aC).2.2.1)), .int tk2, .int (nI o), .long nu2, .ref 1229, .int (nI l2), .ref 1230, .int (nI tp), .int (-1), .ref 1231, .int (nI vb2), .int kn2, .int rkF, .ref 1232])) := am_up_eq _ _ _
      refine v_put (am_Dk d_MR_term (k := 127) rfl) f_MR_204 m1 (Nat.le_of_ble_eq_true rfl) rfl rfl ?_
      rw [am_uu0 (a := 1225)]
      refine v_iload_n (am_Dk d_MR_term (k := 128) rfl) rfl ?_
      exact v_ireturn (am_Dk d_MR_term (k := 129) rfl) rfl rfl (by omega) (by omega) ⟨rfl, (fun i hi => (am_up_ne (show i ≠ 1225 from by omega)).trans ((fr2 i hi))), Or.inl ⟨t, aC, S2, r, sz2, pt2, ns2, tx2, vb2, f1, f2, W2, On2, Vx2, rfl, (show PS f n LU (am_up M2 1225 (.inr (12, [.ref 1226, .ref 1227, .ref 1228, .ref 1213, .ref 1220, .ref 1212, .int (nI n), .int (nI ((tok f n aC).2.1)), .int (nI ((tok f n aC).2.2.1)), .int tk2, .int (nI o), .long nu2, .ref 1229, .int (nI l2), .ref 1230, .int (nI tp), .int (-1), .ref 1231, .int (nI vb2), .int kn2, .int r, .ref 1232]))) aC o tp S2 r sz2 pt2 ns2 tx2 vb2 f1 f2 W2 On2 Vx2 from ⟨⟨by omega, by omega, by omega, by omega, by omega, by omega, by omega, by omega, by omega, by omega⟩, mb_fr hm2 (fun i hi => (am_up_ne (show i ≠ 1225 from by omega)).trans (rfl)), RS_fr hR2 (fun i hi => (am_up_ne (show i ≠ 1225 from by omega)).trans (rfl)), (am_up_ne (show 1230 ≠ 1225 from by decide)).trans (hS2), ⟨_, (am_up_ne (show 1232 ≠ 1225 from by decide)).trans (hkc2)⟩, tk2, nu2, l2, g2, kn2, am_up_eq _ _ _, hsc2, (am_up_ne (show 1229 ≠ 1225 from by decide)).trans (hw2), hg2⟩), ⟨px_0, px_1, px_2, px_3, px_4, px_5, px_6, px_7, px_8⟩, hTR, ⟨ho, hce⟩⟩⟩
    have h44 : ∀ K (M2 : am_M) (aC : Nat) (S2 : Nat → Int32) (rkF : Int32) (sz2 pt2 ns2 tx2 vb2 f1 f2 : Nat) (W2 : Gho) (On2 : Nat → Nat) (Vx2 : Nat → Option (Nat × (Nat → Int32))) (t : Nat) (r : Int32), n < aC + K → PS f n LU M2 aC (o + 1) tp S2 rkF sz2 pt2 ns2 tx2 vb2 f1 f2 W2 On2 Vx2 → pf_fr M M2 → pext a tp sz pt ns S W On t aC S2 sz2 pt2 ns2 W2 On2 → TRes f n lu o mo a sz W2 aC r sz2 t → am_V G m_MR_term (4 * (N + 1) + 9) 0 0 (RQ f n LU lu M nx o mo a o tp S sz pt ns W On (fun a' rk' => o < 100 ∧ c_end f n mo a' rk') (fun w => (o = 100 ∧ w = (tok f n a).2.1) ∨ (o < 100 ∧ TBad f n lu o mo a w))) 44 [(3, .int r), (2, .int (nI t)), (1, .int mo), (0, .ref 1225)] [] M2 nx 0 0 := by
      intro K
      induction K with
      | zero =>
        intro M2 aC S2 rkF sz2 pt2 ns2 tx2 vb2 f1 f2 W2 On2 Vx2 t r hK h2 _ _ _
        have := h2.1.1
        omega
      | succ K ihK =>
        intro M2 aC S2 rkF sz2 pt2 ns2 tx2 vb2 f1 f2 W2 On2 Vx2 t r hK h2 fr2 hpx hTR
        have h2c := h2
        have hpxc := hpx
        obtain ⟨hpb2, hm2, hR2, hS2, ⟨kc2, hkc2⟩, tk2, nu2, l2, g2, kn2, hr2, hsc2, hw2, hg2⟩ := h2
        replace hr2 : M2 1225 = some (.inr (12, [.ref 1226, .ref 1227, .ref 1228, .ref 1213, .ref 1220, .ref 1212, .int (nI n), .int (nI ((tok f n aC).2.1)), .int (nI ((tok f n aC).2.2.1)), .int tk2, .int (nI (o + 1)), .long nu2, .ref 1229, .int (nI l2), .ref 1230, .int (nI tp), .int (-1), .ref 1231, .int (nI vb2), .int kn2, .int rkF, .ref 1232])) := hr2
        obtain ⟨qb_0, qb_1, qb_2, qb_3, qb_4, qb_5, qb_6, qb_7, qb_8, qb_9⟩ := hpb2
        obtain ⟨px_0, px_1, px_2, px_3, px_4, px_5, px_6, px_7, px_8⟩ := hpx
        have k_C := tok_ok f qb_0
        have p_C := tok_pos f qb_0
        have l_C := hsc2.2.2.1
        have hrc := rkN_c _ k_C.2.2.2.2
        obtain ⟨sd, rkA, hsd, hsk, hra, hrk⟩ := hm2.2.1
        have h98 : ¬ c_end f n mo aC r → (rkN (tok f n aC).2.2.2.2 = kn_inf (tok f n aC).2.2.2.2 ∧ ((kn_inf (tok f n aC).2.2.2.2 = 1100 ∨ kn_inf (tok f n aC).2.2.2.2 = 1050 ∨ kn_inf (tok f n aC).2.2.2.2 = 1000) → kn_inf (tok f n aC).2.2.2.2 = kn_mr (tok f n aC).2.2.2.2) ∧ (¬ (kn_inf (tok f n aC).2.2.2.2 = 1100 ∨ kn_inf (tok f n aC).2.2.2.2 = 1050 ∨ kn_inf (tok f n aC).2.2.2.2 = 1000) → kn_inf (tok f n aC).2.2.2.2 - 1 = kn_mr (tok f n aC).2.2.2.2) ∧ 200 ≤ kn_mr (tok f n aC).2.2.2.2) → am_V G m_MR_term (4 * (N + 1) + 9) 0 0 (RQ f n LU lu M nx o mo a o tp S sz pt ns W On (fun a' rk' => o < 100 ∧ c_end f n mo a' rk') (fun w => (o = 100 ∧ w = (tok f n a).2.1) ∨ (o < 100 ∧ TBad f n lu o mo a w))) 98 [(4, .int (rkN (tok f n aC).2.2.2.2)), (2, .int (nI t)), (1, .int mo), (0, .ref 1225)] [] M2 nx 0 0 := by
          intro hi ⟨hrk9, hm1, hm2x, hm200⟩
          rcases hTR with ⟨wT, roT, L9, R9, hTO, hOp, hro, hch⟩ | ⟨hk10, _⟩
          rotate_left
          · exact absurd (c_end0 hk10) hi
          have tkq := tkR_eq hsc2.1 k_C.1
          have hk72 : (tok f n aC).1 = 7 ∨ (tok f n aC).1 = 2 := by
            refine Classical.byContradiction (fun z => hi ?_)
            rw [c_end, tok_nm f (by omega) (by omega)]
            exact fun y => absurd y.1 (by decide)
          have hpc := p_C (by omega)
          refine v_aload_n (am_Dk d_MR_term (k := 50) rfl) rfl ?_
          refine v_get (am_Dk d_MR_term (k := 51) rfl) f_MR_123 hr2 rfl ?_
          refine v_bipush (v := 10) (am_Dk d_MR_term (k := 52) rfl) (by decide) ?_
          refine v_icmp_ne (tgt := 114) (am_Dk d_MR_term (k := 53) rfl) (by decide) (fun c1 => ?_) (fun c1 => ?_)
          · have hk2 : (tok f n aC).1 = 2 := hk72.resolve_left (fun z => c1 (tkq.1.mpr z))
            obtain ⟨hl2, hsp⟩ := hsc2.2.2.2.2 hk2
            refine v_aload_n (am_Dk d_MR_term (k := 57) rfl) rfl ?_
            obtain ⟨⟨Kd2, Nm2, Fi2, Ma2, Pa2, Nu2⟩, T2, F2, Va2, hX2⟩ := RS_fr (M1 := M2) hR2 (fun i hi => rfl)
            refine v_callV (rest := []) (As := []) (mc' := 0) (ms' := 0) (am_Dk d_MR_term (k := 58) rfl) c_MR_212 (Or.inl ⟨_, _, _, _, _, hr2, cq_ok12⟩) (t_MR_name G (d := 2) (le := 0) (l := l2) (by omega) hr2 hw2 hg2 (by omega) hX2 (by omega) (by omega)) (by omega) (by omega) (by omega) (by simp [Value.category]) rfl (fun v3 M4 n5 h6 => ?_) (fun _ _ _ h6 => ?_)
            rotate_left
            · obtain ⟨_, _, _, _, _, _, hx9, _⟩ := h6; cases hx9
            obtain ⟨k7, ns8, tx9, On10, T9, F9, h6, ex9, q111, q112, q113, q114, q115, q116, q117⟩ := h6
            cases h6
            replace ex9 := ex9.symm
            subst ex9
            have b12 : M4 1225 = some (.inr (12, [.ref 1226, .ref 1227, .ref 1228, .ref 1213, .ref 1220, .ref 1212, .int (nI n), .int (nI ((tok f n aC).2.1)), .int (nI ((tok f n aC).2.2.1)), .int tk2, .int (nI (o + 1)), .long nu2, .ref 1229, .int (nI l2), .ref 1230, .int (nI tp), .int (-1), .ref 1231, .int (nI vb2), .int kn2, .int rkF, .ref 1232])) := (q117 1225 (by omega)).trans (hr2)
            have b13 : M4 1229 = some (.inl (0, 4096, .inl g2)) := (q117 1229 (by omega)).trans (hw2)
            have b14 : M4 1230 = some (.inl (1, 4200, .inl S2)) := (q117 1230 (by omega)).trans (hS2)
            have b15 : M4 1232 = some (.inl (0, 4096, .inl kc2)) := (q117 1232 (by omega)).trans (hkc2)
            have hm16 : mb f M4 := mb_fr hm2 (fun i hi => (q117 i (by omega)).trans (rfl))
            have fr17 : pf_fr M M4 := fun i hi => (q117 i (by omega)).trans ((fr2 i hi))
            have hR18 : RS LU M4 sz2 pt2 ns8 tx9 vb2 f1 f2 W2 On10 Vx2 := ⟨_, _, _, _, q111⟩
            show am_V G _ _ _ _ _ 118 [(4, .int (rkN (tok f n aC).2.2.2.2)), (2, .int (nI t)), (1, .int mo), (0, .ref 1225)] [.int (nI k7)] M4 nx 0 0
            refine v_istore (L1 := [(6, .int (nI k7)), (4, .int (rkN (tok f n aC).2.2.2.2)), (2, .int (nI t)), (1, .int mo), (0, .ref 1225)]) (am_Dk d_MR_term (k := 59) rfl) (by decide) rfl ?_
            refine v_aload_n (am_Dk d_MR_term (k := 60) rfl) rfl ?_
            refine v_callV (rest := []) (As := []) (mc' := 0) (ms' := 0) (am_Dk d_MR_term (k := 61) rfl) c_MR_113 (Or.inl ⟨_, _, _, _, _, b12, cq_ok12⟩) (t_MR_scan G (d := 5) (be := 0) (a := (tok f n aC).2.2.1) (by omega) b12 hm16.1 hn hb (by omega) b13 hg2) (by omega) (by omega) (by omega) (by simp [Value.category]) rfl (fun v19 M20 n21 h22 => ?_) (fun _ _ _ h22 => ?_)
            rotate_left
            · obtain ⟨_, _, _, _, hx9, _⟩ := h22; cases hx9
            obtain ⟨tk23, nu24, l25, g26, h22, ex9, e27, hs28, hg29⟩ := h22
            replace e27 := e27.symm
            replace ex9 := ex9.symm
            subst e27
            subst ex9
            cases h22
            have k_hs28 := tok_ok f (show (tok f n aC).2.2.1 ≤ n from by omega)
            have p_hs28 := tok_pos f (show (tok f n aC).2.2.1 ≤ n from by omega)
            have l_hs28 := hs28.2.2.1
            show am_V G _ _ _ _ _ 124 [(6, .int (nI k7)), (4, .int (rkN (tok f n aC).2.2.2.2)), (2, .int (nI t)), (1, .int mo), (0, .ref 1225)] [] (am_up (am_up M4 1229 (.inl (0, 4096, .inl g26))) 1225 (.inr (12, [.ref 1226, .ref 1227, .ref 1228, .ref 1213, .ref 1220, .ref 1212, .int (nI n), .int (nI (tok f n ((tok f n aC).2.2.1)).2.1), .int (nI (tok f n ((tok f n aC).2.2.1)).2.2.1), .int tk23, .int (nI (o + 1)), .long nu24, .ref 1229, .int (nI l25), .ref 1230, .int (nI tp), .int (-1), .ref 1231, .int (nI vb2), .int kn2, .int rkF, .ref 1232]))) nx 0 0
            refine v_aload_n (am_Dk d_MR_term (k := 62) rfl) rfl ?_
            have m30 : (am_up (am_up M4 1229 (.inl (0, 4096, .inl g26))) 1225 (.inr (12, [.ref 1226, .ref 1227, .ref 1228, .ref 1213, .ref 1220, .ref 1212, .int (nI n), .int (nI (tok f n ((tok f n aC).2.2.1)).2.1), .int (nI (tok f n ((tok f n aC).2.2.1)).2.2.1), .int tk23, .int (nI (o + 1)), .long nu24, .ref 1229, .int (nI l25), .ref 1230, .int (nI tp), .int (-1), .ref 1231, .int (nI vb2), .int kn2, .int rkF, .ref 1232]))) 1225 = some (.inr (12, [.ref 1226, .ref 1227, .ref 1228, .ref 1213, .ref 1220, .ref 1212, .int (nI n), .int (nI (tok f n ((tok f n aC).2.2.1)).2.1), .int (nI (tok f n ((tok f n aC).2.2.1)).2.2.1), .int tk23, .int (nI (o + 1)), .long nu24, .ref 1229, .int (nI l25), .ref 1230, .int (nI tp), .int (-1), .ref 1231, .int (nI vb2), .int kn2, .int rkF, .ref 1232])) := am_up_eq _ _ _
            refine v_get (am_Dk d_MR_term (k := 63) rfl) f_MR_102 m30 rfl ?_
            refine v_istore (L1 := [(7, .int (nI tp)), (6, .int (nI k7)), (4, .int (rkN (tok f n aC).2.2.2.2)), (2, .int (nI t)), (1, .int mo), (0, .ref 1225)]) (am_Dk d_MR_term (k := 64) rfl) (by decide) rfl ?_
            refine v_aload_n (am_Dk d_MR_term (k := 65) rfl) rfl ?_
            refine v_get (am_Dk d_MR_term (k := 66) rfl) f_MR_72 m30 rfl ?_
            refine v_aload_n (am_Dk d_MR_term (k := 67) rfl) rfl ?_
            refine v_dup (am_Dk d_MR_term (k := 68) rfl) rfl ?_
            refine v_get (am_Dk d_MR_term (k := 69) rfl) f_MR_102 m30 rfl ?_
            refine v_dup_x1 (am_Dk d_MR_term (k := 70) rfl) rfl rfl ?_
            refine v_iconst (v := 1) (am_Dk d_MR_term (k := 71) rfl) (by decide) ?_
            refine v_iadd (am_Dk d_MR_term (k := 72) rfl) ?_
            rw [nI_1]
            refine v_put (am_Dk d_MR_term (k := 73) rfl) f_MR_102 m30 (Nat.le_of_ble_eq_true rfl) rfl rfl ?_
            rw [am_uu0 (a := 1225)]
            refine v_iload_n (am_Dk d_MR_term (k := 74) rfl) rfl ?_
            have m31 : (am_up (am_up M4 1229 (.inl (0, 4096, .inl g26))) 1225 (.inr (12, [.ref 1226, .ref 1227, .ref 1228, .ref 1213, .ref 1220, .ref 1212, .int (nI n), .int (nI (tok f n ((tok f n aC).2.2.1)).2.1), .int (nI (tok f n ((tok f n aC).2.2.1)).2.2.1), .int tk23, .int (nI (o + 1)), .long nu24, .ref 1229, .int (nI l25), .ref 1230, .int (nI (tp + 1)), .int (-1), .ref 1231, .int (nI vb2), .int kn2, .int rkF, .ref 1232]))) 1230 = some (.inl (1, 4200, .inl S2)) := (am_up_ne (show 1230 ≠ 1225 from by decide)).trans ((am_up_ne (show 1230 ≠ 1229 from by decide)).trans (b14))
            refine v_iast (am_Dk d_MR_term (k := 75) rfl) m31 rfl (vp_in_nI (by omega) (by omega)) ?_
            rw [nI_clamp (n := tp) (by omega)]
            have h181 : ∀ X : Int32, X = kn_mr (tok f n aC).2.2.2.2 → am_V G m_MR_term (4 * (N + 1) + 9) 0 0 (RQ f n LU lu M nx o mo a o tp S sz pt ns W On (fun a' rk' => o < 100 ∧ c_end f n mo a' rk') (fun w => (o = 100 ∧ w = (tok f n a).2.1) ∨ (o < 100 ∧ TBad f n lu o mo a w))) 181 [(7, .int (nI tp)), (6, .int (nI k7)), (4, .int (rkN (tok f n aC).2.2.2.2)), (2, .int (nI t)), (1, .int mo), (0, .ref 1225)] [.int X, .ref 1225] (am_up (am_up (am_up M4 1229 (.inl (0, 4096, .inl g26))) 1225 (.inr (12, [.ref 1226, .ref 1227, .ref 1228, .ref 1213, .ref 1220, .ref 1212, .int (nI n), .int (nI (tok f n ((tok f n aC).2.2.1)).2.1), .int (nI (tok f n ((tok f n aC).2.2.1)).2.2.1), .int tk23, .int (nI (o + 1)), .long nu24, .ref 1229, .int (nI l25), .ref 1230, .int (nI (tp + 1)), .int (-1), .ref 1231, .int (nI vb2), .int kn2, .int rkF, .ref 1232]))) 1230 (.inl (1, 4200, .inl (upd S2 (tp) (nI t))))) nx 0 0 := by
              intro X hX
              subst hX
              have m1 : (am_up (am_up (am_up M4 1229 (.inl (0, 4096, .inl g26))) 1225 (.inr (12, [.ref 1226, .ref 1227, .ref 1228, .ref 1213, .ref 1220, .ref 1212, .int (nI n), .int (nI (tok f n ((tok f n aC).2.2.1)).2.1), .int (nI (tok f n ((tok f n aC).2.2.1)).2.2.1), .int tk23, .int (nI (o + 1)), .long nu24, .ref 1229, .int (nI l25), .ref 1230, .int (nI (tp + 1)), .int (-1), .ref 1231, .int (nI vb2), .int kn2, .int rkF, .ref 1232]))) 1230 (.inl (1, 4200, .inl (upd S2 (tp) (nI t))))) 1225 = some (.inr (12, [.ref 1226, .ref 1227, .ref 1228, .ref 1213, .ref 1220, .ref 1212, .int (nI n), .int (nI (tok f n ((tok f n aC).2.2.1)).2.1), .int (nI (tok f n ((tok f n aC).2.2.1)).2.2.1), .int tk23, .int (nI (o + 1)), .long nu24, .ref 1229, .int (nI l25), .ref 1230, .int (nI (tp + 1)), .int (-1), .ref 1231, .int (nI vb2), .int kn2, .int rkF, .ref 1232])) := (am_up_ne (show 1225 ≠ 1230 from by decide)).trans (am_up_eq _ _ _)
              have ps2 := (show PS f n LU (am_up (am_up (am_up M4 1229 (.inl (0, 4096, .inl g26))) 1225 (.inr (12, [.ref 1226, .ref 1227, .ref 1228, .ref 1213, .ref 1220, .ref 1212, .int (nI n), .int (nI (tok f n ((tok f n aC).2.2.1)).2.1), .int (nI (tok f n ((tok f n aC).2.2.1)).2.2.1), .int tk23, .int (nI (o + 1)), .long nu24, .ref 1229, .int (nI l25), .ref 1230, .int (nI (tp + 1)), .int (-1), .ref 1231, .int (nI vb2), .int kn2, .int rkF, .ref 1232]))) 1230 (.inl (1, 4200, .inl (upd S2 (tp) (nI t))))) ((tok f n aC).2.2.1) (o + 1) (tp + 1) (upd S2 (tp) (nI t)) rkF sz2 pt2 ns8 tx9 vb2 f1 f2 W2 On10 Vx2 from ⟨⟨by omega, by omega, by omega, by omega, by omega, by omega, by omega, by omega, by omega, by omega⟩, mb_fr hm16 (fun i hi => (am_up_ne (show i ≠ 1230 from by omega)).trans ((am_up_ne (show i ≠ 1225 from by omega)).trans ((am_up_ne (show i ≠ 1229 from by omega)).trans (rfl)))), RS_fr hR18 (fun i hi => (am_up_ne (show i ≠ 1230 from by omega)).trans ((am_up_ne (show i ≠ 1225 from by omega)).trans ((am_up_ne (show i ≠ 1229 from by omega)).trans (rfl)))), am_up_eq _ _ _, ⟨_, (am_up_ne (show 1232 ≠ 1230 from by decide)).trans ((am_up_ne (show 1232 ≠ 1225 from by decide)).trans ((am_up_ne (show 1232 ≠ 1229 from by decide)).trans (b15)))⟩, tk23, nu24, l25, g26, kn2, (am_up_ne (show 1225 ≠ 1230 from by decide)).trans (am_up_eq _ _ _), hs28, (am_up_ne (show 1229 ≠ 1230 from by decide)).trans ((am_up_ne (show 1229 ≠ 1225 from by decide)).trans (am_up_eq _ _ _)), hg29⟩)
              refine v_callV (rest := []) (As := [.int (kn_mr (tok f n aC).2.2.2.2)]) (mc' := 0) (ms' := 0) (am_Dk d_MR_term (k := 91) rfl) c_MR_119 (Or.inl ⟨_, _, _, _, _, m1, cq_ok12⟩) (IH _ _ (kn_mr (tok f n aC).2.2.2.2) _ _ _ _ _ _ _ _ _ _ _ _ _ _ ps2 hm200) (by omega) (by omega) (by omega) (by simp [Value.category]) rfl (fun v3 M4 n5 h6 => ?_) (fun x9 M4 n5 h6 => ?_)
              rotate_left
              · obtain ⟨ex9, pfT, hT⟩ := h6
                replace ex9 := ex9.symm
                subst ex9
                rcases hT with ⟨_, _, _, _, _, _, _, _, _, _, _, _, _, _, hx9, _⟩ | ⟨wT, hx9, pxT, bT⟩
                · cases hx9
                · cases hx9
                  exact vt_leave (fun q hq => by cases hq) (by omega) (by omega) ⟨rfl, (fun i hi => (pfT i hi).trans ((am_up_ne (show i ≠ 1230 from by omega)).trans ((am_up_ne (show i ≠ 1225 from by omega)).trans ((am_up_ne (show i ≠ 1229 from by omega)).trans ((fr17 i hi)))))), Or.inr ⟨wT, rfl, pxT, Or.inr ⟨ho, q_infB hn hTO hi (bT.elim (fun z => Or.inl ⟨by omega, z.2⟩) (fun z => Or.inr ⟨z.1, z.2⟩))⟩⟩⟩
              obtain ⟨ex9, pf21, hT⟩ := h6
              replace ex9 := ex9.symm
              subst ex9
              rcases hT with ⟨t7, a8, S9, rk10, sz11, pt12, ns13, tx14, vb15, e116, e217, W18, On19, Vx20, hx9, psx, pe22, tr23, ee24⟩ | ⟨_, hx9, _⟩
              rotate_left
              · cases hx9
              cases hx9
              obtain ⟨pb30, hm31, hR32, hS33, ⟨kc34, hk35⟩, tk25, nu26, l27, g28, kn29, hr36, hs37, hw38, hg39⟩ := psx
              obtain ⟨pb30_0, pb30_1, pb30_2, pb30_3, pb30_4, pb30_5, pb30_6, pb30_7, pb30_8, pb30_9⟩ := pb30
              obtain ⟨pe22_0, pe22_1, pe22_2, pe22_3, pe22_4, pe22_5, pe22_6, pe22_7, pe22_8⟩ := pe22
              replace hr36 : M4 1225 = some (.inr (12, [.ref 1226, .ref 1227, .ref 1228, .ref 1213, .ref 1220, .ref 1212, .int (nI n), .int (nI ((tok f n a8).2.1)), .int (nI ((tok f n a8).2.2.1)), .int tk25, .int (nI (o + 1)), .long nu26, .ref 1229, .int (nI l27), .ref 1230, .int (nI (tp + 1)), .int (-1), .ref 1231, .int (nI vb15), .int kn29, .int rk10, .ref 1232])) := hr36
              have k_hs37 := tok_ok f pb30_0
              have p_hs37 := tok_pos f pb30_0
              have l_hs37 := hs37.2.2.1
              have fr40 : pf_fr M M4 := fun i hi => (pf21 i hi).trans ((am_up_ne (show i ≠ 1230 from by omega)).trans ((am_up_ne (show i ≠ 1225 from by omega)).trans ((am_up_ne (show i ≠ 1229 from by omega)).trans ((fr17 i hi)))))
              show am_V G _ _ _ _ _ 184 [(7, .int (nI tp)), (6, .int (nI k7)), (4, .int (rkN (tok f n aC).2.2.2.2)), (2, .int (nI t)), (1, .int mo), (0, .ref 1225)] [.int (nI t7)] M4 nx 0 0
              refine v_istore (L1 := [(8, .int (nI t7)), (7, .int (nI tp)), (6, .int (nI k7)), (4, .int (rkN (tok f n aC).2.2.2.2)), (2, .int (nI t)), (1, .int mo), (0, .ref 1225)]) (am_Dk d_MR_term (k := 92) rfl) (by decide) rfl ?_
              refine v_aload_n (am_Dk d_MR_term (k := 93) rfl) rfl ?_
              refine v_get (am_Dk d_MR_term (k := 94) rfl) f_MR_72 hr36 rfl ?_
              refine v_aload_n (am_Dk d_MR_term (k := 95) rfl) rfl ?_
              refine v_dup (am_Dk d_MR_term (k := 96) rfl) rfl ?_
              refine v_get (am_Dk d_MR_term (k := 97) rfl) f_MR_102 hr36 rfl ?_
              refine v_dup_x1 (am_Dk d_MR_term (k := 98) rfl) rfl rfl ?_
              refine v_iconst (v := 1) (am_Dk d_MR_term (k := 99) rfl) (by decide) ?_
              refine v_iadd (am_Dk d_MR_term (k := 100) rfl) ?_
              rw [nI_1]
              refine v_put (am_Dk d_MR_term (k := 101) rfl) f_MR_102 hr36 (Nat.le_of_ble_eq_true rfl) rfl rfl ?_
              refine v_iload (am_Dk d_MR_term (k := 102) rfl) rfl ?_
              have m41 : (am_up M4 1225 (.inr (12, [.ref 1226, .ref 1227, .ref 1228, .ref 1213, .ref 1220, .ref 1212, .int (nI n), .int (nI ((tok f n a8).2.1)), .int (nI ((tok f n a8).2.2.1)), .int tk25, .int (nI (o + 1)), .long nu26, .ref 1229, .int (nI l27), .ref 1230, .int (nI (tp + 2)), .int (-1), .ref 1231, .int (nI vb15), .int kn29, .int rk10, .ref 1232]))) 1230 = some (.inl (1, 4200, .inl S9)) := (am_up_ne (show 1230 ≠ 1225 from by decide)).trans (hS33)
              refine v_iast (am_Dk d_MR_term (k := 103) rfl) m41 rfl (vp_in_nI (by omega) (by omega)) ?_
              rw [nI_clamp (n := tp + 1) (by omega)]
              refine v_aload_n (am_Dk d_MR_term (k := 104) rfl) rfl ?_
              have m42 : (am_up (am_up M4 1225 (.inr (12, [.ref 1226, .ref 1227, .ref 1228, .ref 1213, .ref 1220, .ref 1212, .int (nI n), .int (nI ((tok f n a8).2.1)), .int (nI ((tok f n a8).2.2.1)), .int tk25, .int (nI (o + 1)), .long nu26, .ref 1229, .int (nI l27), .ref 1230, .int (nI (tp + 2)), .int (-1), .ref 1231, .int (nI vb15), .int kn29, .int rk10, .ref 1232]))) 1230 (.inl (1, 4200, .inl (upd S9 (tp + 1) (nI t7))))) 1225 = some (.inr (12, [.ref 1226, .ref 1227, .ref 1228, .ref 1213, .ref 1220, .ref 1212, .int (nI n), .int (nI ((tok f n a8).2.1)), .int (nI ((tok f n a8).2.2.1)), .int tk25, .int (nI (o + 1)), .long nu26, .ref 1229, .int (nI l27), .ref 1230, .int (nI (tp + 2)), .int (-1), .ref 1231, .int (nI vb15), .int kn29, .int rk10, .ref 1232])) := (am_up_ne (show 1225 ≠ 1230 from by decide)).trans (am_up_eq _ _ _)
              refine v_get (am_Dk d_MR_term (k := 105) rfl) f_MR_81 m42 rfl ?_
              refine v_iload (am_Dk d_MR_term (k := 106) rfl) rfl ?_
              refine v_aload_n (am_Dk d_MR_term (k := 107) rfl) rfl ?_
              refine v_get (am_Dk d_MR_term (k := 108) rfl) f_MR_72 m42 rfl ?_
              refine v_iload (am_Dk d_MR_term (k := 109) rfl) rfl ?_
              refine v_iconst (v := 2) (am_Dk d_MR_term (k := 110) rfl) (by decide) ?_
              have hyq : ∀ q, q < 2 → (fun q => if q = 0 then t else t7) q < sz11 ∧ (upd S9 (tp + 1) (nI t7)) (tp + q) = nI ((fun q => if q = 0 then t else t7) q) := by
                intro q hq
                show (if q = 0 then t else t7) < _ ∧ _ = nI (if q = 0 then t else t7)
                by_cases hq0 : q = 0
                · rw [if_pos hq0, hq0]
                  exact ⟨by omega, (upd_ne _ _ (by omega)).trans ((pe22_5 (tp + 0) (by omega)).trans (upd_at _ _ _))⟩
                · rw [if_neg hq0, show q = 1 from by omega]
                  exact ⟨by omega, upd_at _ _ _⟩
              obtain ⟨⟨Kd43, Nm43, Fi43, Ma43, Pa43, Nu43⟩, T43, F43, Va43, hX43⟩ := RS_fr (M1 := (am_up (am_up M4 1225 (.inr (12, [.ref 1226, .ref 1227, .ref 1228, .ref 1213, .ref 1220, .ref 1212, .int (nI n), .int (nI ((tok f n a8).2.1)), .int (nI ((tok f n a8).2.2.1)), .int tk25, .int (nI (o + 1)), .long nu26, .ref 1229, .int (nI l27), .ref 1230, .int (nI (tp + 2)), .int (-1), .ref 1231, .int (nI vb15), .int kn29, .int rk10, .ref 1232]))) 1230 (.inl (1, 4200, .inl (upd S9 (tp + 1) (nI t7)))))) hR32 (fun i hi => (am_up_ne (show i ≠ 1230 from by omega)).trans ((am_up_ne (show i ≠ 1225 from by omega)).trans (rfl)))
              have m44 : (am_up (am_up M4 1225 (.inr (12, [.ref 1226, .ref 1227, .ref 1228, .ref 1213, .ref 1220, .ref 1212, .int (nI n), .int (nI ((tok f n a8).2.1)), .int (nI ((tok f n a8).2.2.1)), .int tk25, .int (nI (o + 1)), .long nu26, .ref 1229, .int (nI l27), .ref 1230, .int (nI (tp + 2)), .int (-1), .ref 1231, .int (nI vb15), .int kn29, .int rk10, .ref 1232]))) 1230 (.inl (1, 4200, .inl (upd S9 (tp + 1) (nI t7))))) 1230 = some (.inl (1, 4200, .inl (upd S9 (tp + 1) (nI t7)))) := am_up_eq _ _ _
              refine v_callV (rest := []) (As := [.int (nI k7), .ref 1230, .int (nI tp), .int 2]) (mc' := 0) (ms' := 0) (am_Dk d_MR_term (k := 111) rfl) c_MR_215 (Or.inl ⟨_, _, _, _, _, (RS_o1213 (RS_fr (M1 := (am_up (am_up M4 1225 (.inr (12, [.ref 1226, .ref 1227, .ref 1228, .ref 1213, .ref 1220, .ref 1212, .int (nI n), .int (nI ((tok f n a8).2.1)), .int (nI ((tok f n a8).2.2.1)), .int tk25, .int (nI (o + 1)), .long nu26, .ref 1229, .int (nI l27), .ref 1230, .int (nI (tp + 2)), .int (-1), .ref 1231, .int (nI vb15), .int kn29, .int rk10, .ref 1232]))) 1230 (.inl (1, 4200, .inl (upd S9 (tp + 1) (nI t7)))))) hR32 (fun i hi => (am_up_ne (show i ≠ 1230 from by omega)).trans ((am_up_ne (show i ≠ 1225 from by omega)).trans (rfl))))), cq_ok10⟩) (t_MT_compound G (d := 0) (c := 2) (fr := tp) (by omega) hX43.1 (by omega) m44 (by omega) (by omega) (by omega)) (by omega) (by omega) (by omega) (by simp [Value.category]) rfl (fun v45 M46 n47 h48 => ?_) (fun _ _ _ h48 => ?_)
              rotate_left
              · exact absurd h48.1 (by simp)
              obtain ⟨h48, hA49, hf50, ex9⟩ := h48
              cases h48
              replace ex9 := ex9.symm
              subst ex9
              have hR51 := RS_comp hX43 (k := k7) (c := 2) (fr := tp) (y := (fun q => if q = 0 then t else t7)) (by omega) (by omega) hyq hA49 hf50
              obtain ⟨W52, hW53⟩ : ∃ W9, W9 = gu W18 sz11 (if 2 = 1 then rk1 (On19 k7) (W18.1 ((fun q => if q = 0 then t else t7) 0)).1 (W18.1 ((fun q => if q = 0 then t else t7) 0)).2 else if 2 = 2 then rk2 (On19 k7) (W18.1 ((fun q => if q = 0 then t else t7) 0)).1 (W18.1 ((fun q => if q = 0 then t else t7) 0)).2 (W18.1 ((fun q => if q = 0 then t else t7) 1)).1 (W18.1 ((fun q => if q = 0 then t else t7) 1)).2 else (2, 0)) (if 2 = 2 then (On19 k7, (fun q => if q = 0 then t else t7) 0, (fun q => if q = 0 then t else t7) 1) else (0, 0, 0)) none := ⟨_, rfl⟩
              rw [← hW53] at hR51
              have ge54 : gh_eq sz11 W18 W52 := by rw [hW53]; exact gu_eq _ _ _ _ _
              have at55 := gu_at W18 sz11 (if 2 = 1 then rk1 (On19 k7) (W18.1 ((fun q => if q = 0 then t else t7) 0)).1 (W18.1 ((fun q => if q = 0 then t else t7) 0)).2 else if 2 = 2 then rk2 (On19 k7) (W18.1 ((fun q => if q = 0 then t else t7) 0)).1 (W18.1 ((fun q => if q = 0 then t else t7) 0)).2 (W18.1 ((fun q => if q = 0 then t else t7) 1)).1 (W18.1 ((fun q => if q = 0 then t else t7) 1)).2 else (2, 0)) (if 2 = 2 then (On19 k7, (fun q => if q = 0 then t else t7) 0, (fun q => if q = 0 then t else t7) 1) else (0, 0, 0)) none
              rw [← hW53] at at55
              have b56 : M46 1225 = some (.inr (12, [.ref 1226, .ref 1227, .ref 1228, .ref 1213, .ref 1220, .ref 1212, .int (nI n), .int (nI ((tok f n a8).2.1)), .int (nI ((tok f n a8).2.2.1)), .int tk25, .int (nI (o + 1)), .long nu26, .ref 1229, .int (nI l27), .ref 1230, .int (nI (tp + 2)), .int (-1), .ref 1231, .int (nI vb15), .int kn29, .int rk10, .ref 1232])) := (hf50 1225 (by omega)).trans ((am_up_ne (show 1225 ≠ 1230 from by decide)).trans (am_up_eq _ _ _))
              have b57 : M46 1229 = some (.inl (0, 4096, .inl g28)) := (hf50 1229 (by omega)).trans ((am_up_ne (show 1229 ≠ 1230 from by decide)).trans ((am_up_ne (show 1229 ≠ 1225 from by decide)).trans (hw38)))
              have b58 : M46 1230 = some (.inl (1, 4200, .inl (upd S9 (tp + 1) (nI t7)))) := (hf50 1230 (by omega)).trans (am_up_eq _ _ _)
              have b59 : M46 1232 = some (.inl (0, 4096, .inl kc34)) := (hf50 1232 (by omega)).trans ((am_up_ne (show 1232 ≠ 1230 from by decide)).trans ((am_up_ne (show 1232 ≠ 1225 from by decide)).trans (hk35)))
              have hm60 : mb f M46 := mb_fr hm31 (fun i hi => (hf50 i (by omega)).trans ((am_up_ne (show i ≠ 1230 from by omega)).trans ((am_up_ne (show i ≠ 1225 from by omega)).trans (rfl))))
              have fr61 : pf_fr M M46 := fun i hi => (hf50 i (by omega)).trans ((am_up_ne (show i ≠ 1230 from by omega)).trans ((am_up_ne (show i ≠ 1225 from by omega)).trans ((fr40 i hi))))
              have hR62 : RS LU M46 (sz11 + 1) (pt12 + 2) ns13 tx14 vb15 e116 e217 W52 On19 Vx20 := ⟨_, _, _, _, hR51⟩
              show am_V G _ _ _ _ _ 220 [(8, .int (nI t7)), (7, .int (nI tp)), (6, .int (nI k7)), (4, .int (rkN (tok f n aC).2.2.2.2)), (2, .int (nI t)), (1, .int mo), (0, .ref 1225)] [.int (nI sz11)] M46 nx 0 0
              refine v_istore_n (L1 := [(2, .int (nI sz11)), (8, .int (nI t7)), (7, .int (nI tp)), (6, .int (nI k7)), (4, .int (rkN (tok f n aC).2.2.2.2)), (1, .int mo), (0, .ref 1225)]) (am_Dk d_MR_term (k := 112) rfl) (by decide) rfl ?_
              refine v_aload_n (am_Dk d_MR_term (k := 113) rfl) rfl ?_
              refine v_iload (am_Dk d_MR_term (k := 114) rfl) rfl ?_
              refine v_put (am_Dk d_MR_term (k := 115) rfl) f_MR_102 b56 (Nat.le_of_ble_eq_true rfl) rfl rfl ?_
              refine v_iload (am_Dk d_MR_term (k := 116) rfl) rfl ?_
              refine v_istore_n (L1 := [(3, .int (rkN (tok f n aC).2.2.2.2)), (2, .int (nI sz11)), (8, .int (nI t7)), (7, .int (nI tp)), (6, .int (nI k7)), (4, .int (rkN (tok f n aC).2.2.2.2)), (1, .int mo), (0, .ref 1225)]) (am_Dk d_MR_term (k := 117) rfl) (by decide) rfl ?_
              refine v_goto (tgt := 44) (am_Dk d_MR_term (k := 118) rfl) (by decide) ?_
              have hkO : On19 k7 = (tok f n aC).2.2.2.2 := (pe22_4 k7 q112).trans (q113.trans hsp)
              have hat1 := at55.1
              rw [if_neg (by decide), if_pos rfl, hkO] at hat1
              have hat2 := at55.2.1
              rw [if_pos rfl, hkO] at hat2
              have hOpt : OpN f n W18 t wT := OpN_ext hOp pe22_2 (by omega)
              have hres : TRes f n lu o mo a sz W52 a8 (rkN (tok f n aC).2.2.2.2) (sz11 + 1) sz11 := by
                rw [hrk9]
                rcases tr23 with ⟨wU, roU, L8, R8, hTU, hOpU, hroU, hchU⟩ | ⟨hk10, hTB⟩
                · have hTE := q_inf (ro := (tok f n aC).2.2.2.2) ee24.1 hTO hi hTU ee24.2 (Or.inl rfl)
                  rw [show sz2 - sz + (sz11 - sz2) + 1 = sz11 + 1 - sz from by omega] at hTE
                  have e1 : W18.1 t = (wT.1, wT.2.1) := hOpt.1
                  have e2 : W18.1 t7 = (wU.1, wU.2.1) := hOpU.1
                  have e3 : W52.1 sz11 = rk2 (tok f n aC).2.2.2.2 wT.1 wT.2.1 wU.1 wU.2.1 := by
                    rw [hat1]
                    show rk2 (tok f n aC).2.2.2.2 (W18.1 (if 0 = 0 then t else t7)).1 (W18.1 (if 0 = 0 then t else t7)).2 (W18.1 (if 1 = 0 then t else t7)).1 (W18.1 (if 1 = 0 then t else t7)).2 = _
                    rw [if_pos rfl, if_neg (by decide), e1, e2]
                  refine Or.inl ⟨_, _, _, _, hTE, ⟨e3.trans ?_, by rw [at55.2.2]; exact (by decide : ¬ (0 : Int32) < 0)⟩, by rw [hat2], fun _ => ?_⟩
                  · rfl
                  · rw [hat2]
                    refine ⟨?_, ?_, ?_, ?_⟩
                    · show (if 0 = 0 then t else t7) < _
                      rw [if_pos rfl]; omega
                    · show (if 1 = 0 then t else t7) < _
                      rw [if_neg (by decide)]; omega
                    · show OpN f n _ (if 0 = 0 then t else t7) _
                      rw [if_pos rfl]
                      exact OpN_ext hOpt ge54 (by omega)
                    · show OpN f n _ (if 1 = 0 then t else t7) _
                      rw [if_neg (by decide)]
                      exact OpN_ext hOpU ge54 (by omega)
                · exact Or.inr ⟨hk10, q_infB hn hTO hi (Or.inr ⟨ee24.1, hTB⟩)⟩
              exact v_drop (ihK _ a8 _ _ _ _ _ _ _ _ _ _ _ _ sz11 _ (by omega) (show PS f n LU (am_up M46 1225 (.inr (12, [.ref 1226, .ref 1227, .ref 1228, .ref 1213, .ref 1220, .ref 1212, .int (nI n), .int (nI ((tok f n a8).2.1)), .int (nI ((tok f n a8).2.2.1)), .int tk25, .int (nI (o + 1)), .long nu26, .ref 1229, .int (nI l27), .ref 1230, .int (nI tp), .int (-1), .ref 1231, .int (nI vb15), .int kn29, .int rk10, .ref 1232]))) a8 (o + 1) tp (upd S9 (tp + 1) (nI t7)) rk10 (sz11 + 1) (pt12 + 2) ns13 tx14 vb15 e116 e217 W52 On19 Vx20 from ⟨⟨by omega, by omega, by omega, by omega, by omega, by omega, by omega, by omega, by omega, by omega⟩, mb_fr hm60 (fun i hi => (am_up_ne (show i ≠ 1225 from by omega)).trans (rfl)), RS_fr hR62 (fun i hi => (am_up_ne (show i ≠ 1225 from by omega)).trans (rfl)), (am_up_ne (show 1230 ≠ 1225 from by decide)).trans (b58), ⟨_, (am_up_ne (show 1232 ≠ 1225 from by decide)).trans (b59)⟩, tk25, nu26, l27, g28, kn29, am_up_eq _ _ _, hs37, (am_up_ne (show 1229 ≠ 1225 from by decide)).trans (b57), hg39⟩) (fun i hi => (am_up_ne (show i ≠ 1225 from by omega)).trans ((fr61 i hi))) ⟨by omega, by omega, gh_trans (gh_trans px_2 pe22_2 (by omega)) ge54 (by omega), by omega, fun j hj => (pe22_4 j (by omega)).trans ((q115 j (by omega)).trans (px_4 j hj)), fun j hj => (upd_ne _ _ (by omega)).trans ((pe22_5 j (by omega)).trans ((upd_ne _ _ (by omega)).trans (px_5 j hj))), by omega, by omega, by omega⟩ hres) (by simp)
            refine v_aload_n (am_Dk d_MR_term (k := 76) rfl) rfl ?_
            refine v_iload (am_Dk d_MR_term (k := 77) rfl) rfl ?_
            refine v_sipush (v := 1100) (am_Dk d_MR_term (k := 78) rfl) (by decide) ?_
            refine v_icmp_eq (tgt := 172) (am_Dk d_MR_term (k := 79) rfl) (by decide) (fun c32 => ?_) (fun c32 => ?_)
            · have m0 : kn_inf (tok f n aC).2.2.2.2 = 1100 ∨ kn_inf (tok f n aC).2.2.2.2 = 1050 ∨ kn_inf (tok f n aC).2.2.2.2 = 1000 := Or.inl (hrk9.symm.trans c32)
              refine v_iload (am_Dk d_MR_term (k := 86) rfl) rfl ?_
              refine v_goto (tgt := 181) (am_Dk d_MR_term (k := 87) rfl) (by decide) ?_
              exact h181 _ (hrk9.trans (hm1 m0))
            · have n1100 : ¬ kn_inf (tok f n aC).2.2.2.2 = 1100 := fun z => c32 (hrk9.trans z)
              refine v_iload (am_Dk d_MR_term (k := 80) rfl) rfl ?_
              refine v_sipush (v := 1050) (am_Dk d_MR_term (k := 81) rfl) (by decide) ?_
              refine v_icmp_eq (tgt := 172) (am_Dk d_MR_term (k := 82) rfl) (by decide) (fun c33 => ?_) (fun c33 => ?_)
              · have m0 : kn_inf (tok f n aC).2.2.2.2 = 1100 ∨ kn_inf (tok f n aC).2.2.2.2 = 1050 ∨ kn_inf (tok f n aC).2.2.2.2 = 1000 := Or.inr (Or.inl (hrk9.symm.trans c33))
                refine v_iload (am_Dk d_MR_term (k := 86) rfl) rfl ?_
                refine v_goto (tgt := 181) (am_Dk d_MR_term (k := 87) rfl) (by decide) ?_
                exact h181 _ (hrk9.trans (hm1 m0))
              · have n1050 : ¬ kn_inf (tok f n aC).2.2.2.2 = 1050 := fun z => c33 (hrk9.trans z)
                refine v_iload (am_Dk d_MR_term (k := 83) rfl) rfl ?_
                refine v_sipush (v := 1000) (am_Dk d_MR_term (k := 84) rfl) (by decide) ?_
                refine v_icmp_ne (tgt := 177) (am_Dk d_MR_term (k := 85) rfl) (by decide) (fun c34 => ?_) (fun c34 => ?_)
                · have m1 : ¬ (kn_inf (tok f n aC).2.2.2.2 = 1100 ∨ kn_inf (tok f n aC).2.2.2.2 = 1050 ∨ kn_inf (tok f n aC).2.2.2.2 = 1000) := fun z => z.elim n1100 (fun y => y.elim n1050 (fun x => c34 (hrk9.trans x)))
                  refine v_iload (am_Dk d_MR_term (k := 88) rfl) rfl ?_
                  refine v_iconst (v := 1) (am_Dk d_MR_term (k := 89) rfl) (by decide) ?_
                  refine v_isub (am_Dk d_MR_term (k := 90) rfl) ?_
                  exact h181 _ (by rw [hrk9]; exact hm2x m1)
                · have m0 : kn_inf (tok f n aC).2.2.2.2 = 1100 ∨ kn_inf (tok f n aC).2.2.2.2 = 1050 ∨ kn_inf (tok f n aC).2.2.2.2 = 1000 := Or.inr (Or.inr (hrk9.symm.trans c34))
                  refine v_iload (am_Dk d_MR_term (k := 86) rfl) rfl ?_
                  refine v_goto (tgt := 181) (am_Dk d_MR_term (k := 87) rfl) (by decide) ?_
                  exact h181 _ (hrk9.trans (hm1 m0))
          · have hk7 := tkq.1.mp c1
            have hn1 := tok_nm7 f hk7
            refine v_aload_n (am_Dk d_MR_term (k := 54) rfl) rfl ?_
            obtain ⟨⟨Kd35, Nm35, Fi35, Ma35, Pa35, Nu35⟩, T35, F35, Va35, hX35⟩ := RS_fr (M1 := M2) hR2 (fun i hi => rfl)
            refine v_callV (rest := []) (As := []) (mc' := 0) (ms' := 0) (am_Dk d_MR_term (k := 55) rfl) c_MR_209 (Or.inl ⟨_, _, _, _, _, hr2, cq_ok12⟩) (t_MR_comma G (d := 4) (by omega) hr2 hw2 hg2 hX35 (by omega) (by omega)) (by omega) (by omega) (by omega) (by simp [Value.category]) rfl (fun v36 M37 n38 h39 => ?_) (fun _ _ _ h39 => ?_)
            rotate_left
            · obtain ⟨_, _, _, _, _, _, hx9, _⟩ := h39; cases hx9
            obtain ⟨k40, ns41, tx42, On43, T9, F9, h39, ex9, q441, q442, q443, q444, q445, q446, q447⟩ := h39
            cases h39
            replace ex9 := ex9.symm
            subst ex9
            have b45 : M37 1225 = some (.inr (12, [.ref 1226, .ref 1227, .ref 1228, .ref 1213, .ref 1220, .ref 1212, .int (nI n), .int (nI ((tok f n aC).2.1)), .int (nI ((tok f n aC).2.2.1)), .int tk2, .int (nI (o + 1)), .long nu2, .ref 1229, .int (nI 1), .ref 1230, .int (nI tp), .int (-1), .ref 1231, .int (nI vb2), .int kn2, .int rkF, .ref 1232])) := (q447 1225 (by omega)).trans (am_up_eq _ _ _)
            have b46 : M37 1229 = some (.inl (0, 4096, .inl (upd g2 0 44))) := (q447 1229 (by omega)).trans ((am_up_ne (show 1229 ≠ 1225 from by decide)).trans (am_up_eq _ _ _))
            have b47 : M37 1230 = some (.inl (1, 4200, .inl S2)) := (q447 1230 (by omega)).trans ((am_up_ne (show 1230 ≠ 1225 from by decide)).trans ((am_up_ne (show 1230 ≠ 1229 from by decide)).trans (hS2)))
            have b48 : M37 1232 = some (.inl (0, 4096, .inl kc2)) := (q447 1232 (by omega)).trans ((am_up_ne (show 1232 ≠ 1225 from by decide)).trans ((am_up_ne (show 1232 ≠ 1229 from by decide)).trans (hkc2)))
            have hm49 : mb f M37 := mb_fr hm2 (fun i hi => (q447 i (by omega)).trans ((am_up_ne (show i ≠ 1225 from by omega)).trans ((am_up_ne (show i ≠ 1229 from by omega)).trans (rfl))))
            have fr50 : pf_fr M M37 := fun i hi => (q447 i (by omega)).trans ((am_up_ne (show i ≠ 1225 from by omega)).trans ((am_up_ne (show i ≠ 1229 from by omega)).trans ((fr2 i hi))))
            have hR51 : RS LU M37 sz2 pt2 ns41 tx42 vb2 f1 f2 W2 On43 Vx2 := ⟨_, _, _, _, q441⟩
            show am_V G _ _ _ _ _ 111 [(4, .int (rkN (tok f n aC).2.2.2.2)), (2, .int (nI t)), (1, .int mo), (0, .ref 1225)] [.int (nI k40)] M37 nx 0 0
            refine v_goto (tgt := 118) (am_Dk d_MR_term (k := 56) rfl) (by decide) ?_
            refine v_istore (L1 := [(6, .int (nI k40)), (4, .int (rkN (tok f n aC).2.2.2.2)), (2, .int (nI t)), (1, .int mo), (0, .ref 1225)]) (am_Dk d_MR_term (k := 59) rfl) (by decide) rfl ?_
            refine v_aload_n (am_Dk d_MR_term (k := 60) rfl) rfl ?_
            refine v_callV (rest := []) (As := []) (mc' := 0) (ms' := 0) (am_Dk d_MR_term (k := 61) rfl) c_MR_113 (Or.inl ⟨_, _, _, _, _, b45, cq_ok12⟩) (t_MR_scan G (d := 5) (be := 0) (a := (tok f n aC).2.2.1) (by omega) b45 hm49.1 hn hb (by omega) b46 (tbB_up hg2 ⟨by decide, by decide⟩)) (by omega) (by omega) (by omega) (by simp [Value.category]) rfl (fun v52 M53 n54 h55 => ?_) (fun _ _ _ h55 => ?_)
            rotate_left
            · obtain ⟨_, _, _, _, hx9, _⟩ := h55; cases hx9
            obtain ⟨tk56, nu57, l58, g59, h55, ex9, e60, hs61, hg62⟩ := h55
            replace e60 := e60.symm
            replace ex9 := ex9.symm
            subst e60
            subst ex9
            cases h55
            have k_hs61 := tok_ok f (show (tok f n aC).2.2.1 ≤ n from by omega)
            have p_hs61 := tok_pos f (show (tok f n aC).2.2.1 ≤ n from by omega)
            have l_hs61 := hs61.2.2.1
            show am_V G _ _ _ _ _ 124 [(6, .int (nI k40)), (4, .int (rkN (tok f n aC).2.2.2.2)), (2, .int (nI t)), (1, .int mo), (0, .ref 1225)] [] (am_up (am_up M37 1229 (.inl (0, 4096, .inl g59))) 1225 (.inr (12, [.ref 1226, .ref 1227, .ref 1228, .ref 1213, .ref 1220, .ref 1212, .int (nI n), .int (nI (tok f n ((tok f n aC).2.2.1)).2.1), .int (nI (tok f n ((tok f n aC).2.2.1)).2.2.1), .int tk56, .int (nI (o + 1)), .long nu57, .ref 1229, .int (nI l58), .ref 1230, .int (nI tp), .int (-1), .ref 1231, .int (nI vb2), .int kn2, .int rkF, .ref 1232]))) nx 0 0
            refine v_aload_n (am_Dk d_MR_term (k := 62) rfl) rfl ?_
            have m63 : (am_up (am_up M37 1229 (.inl (0, 4096, .inl g59))) 1225 (.inr (12, [.ref 1226, .ref 1227, .ref 1228, .ref 1213, .ref 1220, .ref 1212, .int (nI n), .int (nI (tok f n ((tok f n aC).2.2.1)).2.1), .int (nI (tok f n ((tok f n aC).2.2.1)).2.2.1), .int tk56, .int (nI (o + 1)), .long nu57, .ref 1229, .int (nI l58), .ref 1230, .int (nI tp), .int (-1), .ref 1231, .int (nI vb2), .int kn2, .int rkF, .ref 1232]))) 1225 = some (.inr (12, [.ref 1226, .ref 1227, .ref 1228, .ref 1213, .ref 1220, .ref 1212, .int (nI n), .int (nI (tok f n ((tok f n aC).2.2.1)).2.1), .int (nI (tok f n ((tok f n aC).2.2.1)).2.2.1), .int tk56, .int (nI (o + 1)), .long nu57, .ref 1229, .int (nI l58), .ref 1230, .int (nI tp), .int (-1), .ref 1231, .int (nI vb2), .int kn2, .int rkF, .ref 1232])) := am_up_eq _ _ _
            refine v_get (am_Dk d_MR_term (k := 63) rfl) f_MR_102 m63 rfl ?_
            refine v_istore (L1 := [(7, .int (nI tp)), (6, .int (nI k40)), (4, .int (rkN (tok f n aC).2.2.2.2)), (2, .int (nI t)), (1, .int mo), (0, .ref 1225)]) (am_Dk d_MR_term (k := 64) rfl) (by decide) rfl ?_
            refine v_aload_n (am_Dk d_MR_term (k := 65) rfl) rfl ?_
            refine v_get (am_Dk d_MR_term (k := 66) rfl) f_MR_72 m63 rfl ?_
            refine v_aload_n (am_Dk d_MR_term (k := 67) rfl) rfl ?_
            refine v_dup (am_Dk d_MR_term (k := 68) rfl) rfl ?_
            refine v_get (am_Dk d_MR_term (k := 69) rfl) f_MR_102 m63 rfl ?_
            refine v_dup_x1 (am_Dk d_MR_term (k := 70) rfl) rfl rfl ?_
            refine v_iconst (v := 1) (am_Dk d_MR_term (k := 71) rfl) (by decide) ?_
            refine v_iadd (am_Dk d_MR_term (k := 72) rfl) ?_
            rw [nI_1]
            refine v_put (am_Dk d_MR_term (k := 73) rfl) f_MR_102 m63 (Nat.le_of_ble_eq_true rfl) rfl rfl ?_
            rw [am_uu0 (a := 1225)]
            refine v_iload_n (am_Dk d_MR_term (k := 74) rfl) rfl ?_
            have m64 : (am_up (am_up M37 1229 (.inl (0, 4096, .inl g59))) 1225 (.inr (12, [.ref 1226, .ref 1227, .ref 1228, .ref 1213, .ref 1220, .ref 1212, .int (nI n), .int (nI (tok f n ((tok f n aC).2.2.1)).2.1), .int (nI (tok f n ((tok f n aC).2.2.1)).2.2.1), .int tk56, .int (nI (o + 1)), .long nu57, .ref 1229, .int (nI l58), .ref 1230, .int (nI (tp + 1)), .int (-1), .ref 1231, .int (nI vb2), .int kn2, .int rkF, .ref 1232]))) 1230 = some (.inl (1, 4200, .inl S2)) := (am_up_ne (show 1230 ≠ 1225 from by decide)).trans ((am_up_ne (show 1230 ≠ 1229 from by decide)).trans (b47))
            refine v_iast (am_Dk d_MR_term (k := 75) rfl) m64 rfl (vp_in_nI (by omega) (by omega)) ?_
            rw [nI_clamp (n := tp) (by omega)]
            have h181 : ∀ X : Int32, X = kn_mr (tok f n aC).2.2.2.2 → am_V G m_MR_term (4 * (N + 1) + 9) 0 0 (RQ f n LU lu M nx o mo a o tp S sz pt ns W On (fun a' rk' => o < 100 ∧ c_end f n mo a' rk') (fun w => (o = 100 ∧ w = (tok f n a).2.1) ∨ (o < 100 ∧ TBad f n lu o mo a w))) 181 [(7, .int (nI tp)), (6, .int (nI k40)), (4, .int (rkN (tok f n aC).2.2.2.2)), (2, .int (nI t)), (1, .int mo), (0, .ref 1225)] [.int X, .ref 1225] (am_up (am_up (am_up M37 1229 (.inl (0, 4096, .inl g59))) 1225 (.inr (12, [.ref 1226, .ref 1227, .ref 1228, .ref 1213, .ref 1220, .ref 1212, .int (nI n), .int (nI (tok f n ((tok f n aC).2.2.1)).2.1), .int (nI (tok f n ((tok f n aC).2.2.1)).2.2.1), .int tk56, .int (nI (o + 1)), .long nu57, .ref 1229, .int (nI l58), .ref 1230, .int (nI (tp + 1)), .int (-1), .ref 1231, .int (nI vb2), .int kn2, .int rkF, .ref 1232]))) 1230 (.inl (1, 4200, .inl (upd S2 (tp) (nI t))))) nx 0 0 := by
              intro X hX
              subst hX
              have m1 : (am_up (am_up (am_up M37 1229 (.inl (0, 4096, .inl g59))) 1225 (.inr (12, [.ref 1226, .ref 1227, .ref 1228, .ref 1213, .ref 1220, .ref 1212, .int (nI n), .int (nI (tok f n ((tok f n aC).2.2.1)).2.1), .int (nI (tok f n ((tok f n aC).2.2.1)).2.2.1), .int tk56, .int (nI (o + 1)), .long nu57, .ref 1229, .int (nI l58), .ref 1230, .int (nI (tp + 1)), .int (-1), .ref 1231, .int (nI vb2), .int kn2, .int rkF, .ref 1232]))) 1230 (.inl (1, 4200, .inl (upd S2 (tp) (nI t))))) 1225 = some (.inr (12, [.ref 1226, .ref 1227, .ref 1228, .ref 1213, .ref 1220, .ref 1212, .int (nI n), .int (nI (tok f n ((tok f n aC).2.2.1)).2.1), .int (nI (tok f n ((tok f n aC).2.2.1)).2.2.1), .int tk56, .int (nI (o + 1)), .long nu57, .ref 1229, .int (nI l58), .ref 1230, .int (nI (tp + 1)), .int (-1), .ref 1231, .int (nI vb2), .int kn2, .int rkF, .ref 1232])) := (am_up_ne (show 1225 ≠ 1230 from by decide)).trans (am_up_eq _ _ _)
              have ps2 := (show PS f n LU (am_up (am_up (am_up M37 1229 (.inl (0, 4096, .inl g59))) 1225 (.inr (12, [.ref 1226, .ref 1227, .ref 1228, .ref 1213, .ref 1220, .ref 1212, .int (nI n), .int (nI (tok f n ((tok f n aC).2.2.1)).2.1), .int (nI (tok f n ((tok f n aC).2.2.1)).2.2.1), .int tk56, .int (nI (o + 1)), .long nu57, .ref 1229, .int (nI l58), .ref 1230, .int (nI (tp + 1)), .int (-1), .ref 1231, .int (nI vb2), .int kn2, .int rkF, .ref 1232]))) 1230 (.inl (1, 4200, .inl (upd S2 (tp) (nI t))))) ((tok f n aC).2.2.1) (o + 1) (tp + 1) (upd S2 (tp) (nI t)) rkF sz2 pt2 ns41 tx42 vb2 f1 f2 W2 On43 Vx2 from ⟨⟨by omega, by omega, by omega, by omega, by omega, by omega, by omega, by omega, by omega, by omega⟩, mb_fr hm49 (fun i hi => (am_up_ne (show i ≠ 1230 from by omega)).trans ((am_up_ne (show i ≠ 1225 from by omega)).trans ((am_up_ne (show i ≠ 1229 from by omega)).trans (rfl)))), RS_fr hR51 (fun i hi => (am_up_ne (show i ≠ 1230 from by omega)).trans ((am_up_ne (show i ≠ 1225 from by omega)).trans ((am_up_ne (show i ≠ 1229 from by omega)).trans (rfl)))), am_up_eq _ _ _, ⟨_, (am_up_ne (show 1232 ≠ 1230 from by decide)).trans ((am_up_ne (show 1232 ≠ 1225 from by decide)).trans ((am_up_ne (show 1232 ≠ 1229 from by decide)).trans (b48)))⟩, tk56, nu57, l58, g59, kn2, (am_up_ne (show 1225 ≠ 1230 from by decide)).trans (am_up_eq _ _ _), hs61, (am_up_ne (show 1229 ≠ 1230 from by decide)).trans ((am_up_ne (show 1229 ≠ 1225 from by decide)).trans (am_up_eq _ _ _)), hg62⟩)
              refine v_callV (rest := []) (As := [.int (kn_mr (tok f n aC).2.2.2.2)]) (mc' := 0) (ms' := 0) (am_Dk d_MR_term (k := 91) rfl) c_MR_119 (Or.inl ⟨_, _, _, _, _, m1, cq_ok12⟩) (IH _ _ (kn_mr (tok f n aC).2.2.2.2) _ _ _ _ _ _ _ _ _ _ _ _ _ _ ps2 hm200) (by omega) (by omega) (by omega) (by simp [Value.category]) rfl (fun v3 M4 n5 h6 => ?_) (fun x9 M4 n5 h6 => ?_)
              rotate_left
              · obtain ⟨ex9, pfT, hT⟩ := h6
                replace ex9 := ex9.symm
                subst ex9
                rcases hT with ⟨_, _, _, _, _, _, _, _, _, _, _, _, _, _, hx9, _⟩ | ⟨wT, hx9, pxT, bT⟩
                · cases hx9
                · cases hx9
                  exact vt_leave (fun q hq => by cases hq) (by omega) (by omega) ⟨rfl, (fun i hi => (pfT i hi).trans ((am_up_ne (show i ≠ 1230 from by omega)).trans ((am_up_ne (show i ≠ 1225 from by omega)).trans ((am_up_ne (show i ≠ 1229 from by omega)).trans ((fr50 i hi)))))), Or.inr ⟨wT, rfl, pxT, Or.inr ⟨ho, q_infB hn hTO hi (bT.elim (fun z => Or.inl ⟨by omega, z.2⟩) (fun z => Or.inr ⟨z.1, z.2⟩))⟩⟩⟩
              obtain ⟨ex9, pf21, hT⟩ := h6
              replace ex9 := ex9.symm
              subst ex9
              rcases hT with ⟨t7, a8, S9, rk10, sz11, pt12, ns13, tx14, vb15, e116, e217, W18, On19, Vx20, hx9, psx, pe22, tr23, ee24⟩ | ⟨_, hx9, _⟩
              rotate_left
              · cases hx9
              cases hx9
              obtain ⟨pb30, hm31, hR32, hS33, ⟨kc34, hk35⟩, tk25, nu26, l27, g28, kn29, hr36, hs37, hw38, hg39⟩ := psx
              obtain ⟨pb30_0, pb30_1, pb30_2, pb30_3, pb30_4, pb30_5, pb30_6, pb30_7, pb30_8, pb30_9⟩ := pb30
              obtain ⟨pe22_0, pe22_1, pe22_2, pe22_3, pe22_4, pe22_5, pe22_6, pe22_7, pe22_8⟩ := pe22
              replace hr36 : M4 1225 = some (.inr (12, [.ref 1226, .ref 1227, .ref 1228, .ref 1213, .ref 1220, .ref 1212, .int (nI n), .int (nI ((tok f n a8).2.1)), .int (nI ((tok f n a8).2.2.1)), .int tk25, .int (nI (o + 1)), .long nu26, .ref 1229, .int (nI l27), .ref 1230, .int (nI (tp + 1)), .int (-1), .ref 1231, .int (nI vb15), .int kn29, .int rk10, .ref 1232])) := hr36
              have k_hs37 := tok_ok f pb30_0
              have p_hs37 := tok_pos f pb30_0
              have l_hs37 := hs37.2.2.1
              have fr40 : pf_fr M M4 := fun i hi => (pf21 i hi).trans ((am_up_ne (show i ≠ 1230 from by omega)).trans ((am_up_ne (show i ≠ 1225 from by omega)).trans ((am_up_ne (show i ≠ 1229 from by omega)).trans ((fr50 i hi)))))
              show am_V G _ _ _ _ _ 184 [(7, .int (nI tp)), (6, .int (nI k40)), (4, .int (rkN (tok f n aC).2.2.2.2)), (2, .int (nI t)), (1, .int mo), (0, .ref 1225)] [.int (nI t7)] M4 nx 0 0
              refine v_istore (L1 := [(8, .int (nI t7)), (7, .int (nI tp)), (6, .int (nI k40)), (4, .int (rkN (tok f n aC).2.2.2.2)), (2, .int (nI t)), (1, .int mo), (0, .ref 1225)]) (am_Dk d_MR_term (k := 92) rfl) (by decide) rfl ?_
              refine v_aload_n (am_Dk d_MR_term (k := 93) rfl) rfl ?_
              refine v_get (am_Dk d_MR_term (k := 94) rfl) f_MR_72 hr36 rfl ?_
              refine v_aload_n (am_Dk d_MR_term (k := 95) rfl) rfl ?_
              refine v_dup (am_Dk d_MR_term (k := 96) rfl) rfl ?_
              refine v_get (am_Dk d_MR_term (k := 97) rfl) f_MR_102 hr36 rfl ?_
              refine v_dup_x1 (am_Dk d_MR_term (k := 98) rfl) rfl rfl ?_
              refine v_iconst (v := 1) (am_Dk d_MR_term (k := 99) rfl) (by decide) ?_
              refine v_iadd (am_Dk d_MR_term (k := 100) rfl) ?_
              rw [nI_1]
              refine v_put (am_Dk d_MR_term (k := 101) rfl) f_MR_102 hr36 (Nat.le_of_ble_eq_true rfl) rfl rfl ?_
              refine v_iload (am_Dk d_MR_term (k := 102) rfl) rfl ?_
              have m41 : (am_up M4 1225 (.inr (12, [.ref 1226, .ref 1227, .ref 1228, .ref 1213, .ref 1220, .ref 1212, .int (nI n), .int (nI ((tok f n a8).2.1)), .int (nI ((tok f n a8).2.2.1)), .int tk25, .int (nI (o + 1)), .long nu26, .ref 1229, .int (nI l27), .ref 1230, .int (nI (tp + 2)), .int (-1), .ref 1231, .int (nI vb15), .int kn29, .int rk10, .ref 1232]))) 1230 = some (.inl (1, 4200, .inl S9)) := (am_up_ne (show 1230 ≠ 1225 from by decide)).trans (hS33)
              refine v_iast (am_Dk d_MR_term (k := 103) rfl) m41 rfl (vp_in_nI (by omega) (by omega)) ?_
              rw [nI_clamp (n := tp + 1) (by omega)]
              refine v_aload_n (am_Dk d_MR_term (k := 104) rfl) rfl ?_
              have m42 : (am_up (am_up M4 1225 (.inr (12, [.ref 1226, .ref 1227, .ref 1228, .ref 1213, .ref 1220, .ref 1212, .int (nI n), .int (nI ((tok f n a8).2.1)), .int (nI ((tok f n a8).2.2.1)), .int tk25, .int (nI (o + 1)), .long nu26, .ref 1229, .int (nI l27), .ref 1230, .int (nI (tp + 2)), .int (-1), .ref 1231, .int (nI vb15), .int kn29, .int rk10, .ref 1232]))) 1230 (.inl (1, 4200, .inl (upd S9 (tp + 1) (nI t7))))) 1225 = some (.inr (12, [.ref 1226, .ref 1227, .ref 1228, .ref 1213, .ref 1220, .ref 1212, .int (nI n), .int (nI ((tok f n a8).2.1)), .int (nI ((tok f n a8).2.2.1)), .int tk25, .int (nI (o + 1)), .long nu26, .ref 1229, .int (nI l27), .ref 1230, .int (nI (tp + 2)), .int (-1), .ref 1231, .int (nI vb15), .int kn29, .int rk10, .ref 1232])) := (am_up_ne (show 1225 ≠ 1230 from by decide)).trans (am_up_eq _ _ _)
              refine v_get (am_Dk d_MR_term (k := 105) rfl) f_MR_81 m42 rfl ?_
              refine v_iload (am_Dk d_MR_term (k := 106) rfl) rfl ?_
              refine v_aload_n (am_Dk d_MR_term (k := 107) rfl) rfl ?_
              refine v_get (am_Dk d_MR_term (k := 108) rfl) f_MR_72 m42 rfl ?_
              refine v_iload (am_Dk d_MR_term (k := 109) rfl) rfl ?_
              refine v_iconst (v := 2) (am_Dk d_MR_term (k := 110) rfl) (by decide) ?_
              have hyq : ∀ q, q < 2 → (fun q => if q = 0 then t else t7) q < sz11 ∧ (upd S9 (tp + 1) (nI t7)) (tp + q) = nI ((fun q => if q = 0 then t else t7) q) := by
                intro q hq
                show (if q = 0 then t else t7) < _ ∧ _ = nI (if q = 0 then t else t7)
                by_cases hq0 : q = 0
                · rw [if_pos hq0, hq0]
                  exact ⟨by omega, (upd_ne _ _ (by omega)).trans ((pe22_5 (tp + 0) (by omega)).trans (upd_at _ _ _))⟩
                · rw [if_neg hq0, show q = 1 from by omega]
                  exact ⟨by omega, upd_at _ _ _⟩
              obtain ⟨⟨Kd43, Nm43, Fi43, Ma43, Pa43, Nu43⟩, T43, F43, Va43, hX43⟩ := RS_fr (M1 := (am_up (am_up M4 1225 (.inr (12, [.ref 1226, .ref 1227, .ref 1228, .ref 1213, .ref 1220, .ref 1212, .int (nI n), .int (nI ((tok f n a8).2.1)), .int (nI ((tok f n a8).2.2.1)), .int tk25, .int (nI (o + 1)), .long nu26, .ref 1229, .int (nI l27), .ref 1230, .int (nI (tp + 2)), .int (-1), .ref 1231, .int (nI vb15), .int kn29, .int rk10, .ref 1232]))) 1230 (.inl (1, 4200, .inl (upd S9 (tp + 1) (nI t7)))))) hR32 (fun i hi => (am_up_ne (show i ≠ 1230 from by omega)).trans ((am_up_ne (show i ≠ 1225 from by omega)).trans (rfl)))
              have m44 : (am_up (am_up M4 1225 (.inr (12, [.ref 1226, .ref 1227, .ref 1228, .ref 1213, .ref 1220, .ref 1212, .int (nI n), .int (nI ((tok f n a8).2.1)), .int (nI ((tok f n a8).2.2.1)), .int tk25, .int (nI (o + 1)), .long nu26, .ref 1229, .int (nI l27), .ref 1230, .int (nI (tp + 2)), .int (-1), .ref 1231, .int (nI vb15), .int kn29, .int rk10, .ref 1232]))) 1230 (.inl (1, 4200, .inl (upd S9 (tp + 1) (nI t7))))) 1230 = some (.inl (1, 4200, .inl (upd S9 (tp + 1) (nI t7)))) := am_up_eq _ _ _
              refine v_callV (rest := []) (As := [.int (nI k40), .ref 1230, .int (nI tp), .int 2]) (mc' := 0) (ms' := 0) (am_Dk d_MR_term (k := 111) rfl) c_MR_215 (Or.inl ⟨_, _, _, _, _, (RS_o1213 (RS_fr (M1 := (am_up (am_up M4 1225 (.inr (12, [.ref 1226, .ref 1227, .ref 1228, .ref 1213, .ref 1220, .ref 1212, .int (nI n), .int (nI ((tok f n a8).2.1)), .int (nI ((tok f n a8).2.2.1)), .int tk25, .int (nI (o + 1)), .long nu26, .ref 1229, .int (nI l27), .ref 1230, .int (nI (tp + 2)), .int (-1), .ref 1231, .int (nI vb15), .int kn29, .int rk10, .ref 1232]))) 1230 (.inl (1, 4200, .inl (upd S9 (tp + 1) (nI t7)))))) hR32 (fun i hi => (am_up_ne (show i ≠ 1230 from by omega)).trans ((am_up_ne (show i ≠ 1225 from by omega)).trans (rfl))))), cq_ok10⟩) (t_MT_compound G (d := 0) (c := 2) (fr := tp) (by omega) hX43.1 (by omega) m44 (by omega) (by omega) (by omega)) (by omega) (by omega) (by omega) (by simp [Value.category]) rfl (fun v45 M46 n47 h48 => ?_) (fun _ _ _ h48 => ?_)
              rotate_left
              · exact absurd h48.1 (by simp)
              obtain ⟨h48, hA49, hf50, ex9⟩ := h48
              cases h48
              replace ex9 := ex9.symm
              subst ex9
              have hR51 := RS_comp hX43 (k := k40) (c := 2) (fr := tp) (y := (fun q => if q = 0 then t else t7)) (by omega) (by omega) hyq hA49 hf50
              obtain ⟨W52, hW53⟩ : ∃ W9, W9 = gu W18 sz11 (if 2 = 1 then rk1 (On19 k40) (W18.1 ((fun q => if q = 0 then t else t7) 0)).1 (W18.1 ((fun q => if q = 0 then t else t7) 0)).2 else if 2 = 2 then rk2 (On19 k40) (W18.1 ((fun q => if q = 0 then t else t7) 0)).1 (W18.1 ((fun q => if q = 0 then t else t7) 0)).2 (W18.1 ((fun q => if q = 0 then t else t7) 1)).1 (W18.1 ((fun q => if q = 0 then t else t7) 1)).2 else (2, 0)) (if 2 = 2 then (On19 k40, (fun q => if q = 0 then t else t7) 0, (fun q => if q = 0 then t else t7) 1) else (0, 0, 0)) none := ⟨_, rfl⟩
              rw [← hW53] at hR51
              have ge54 : gh_eq sz11 W18 W52 := by rw [hW53]; exact gu_eq _ _ _ _ _
              have at55 := gu_at W18 sz11 (if 2 = 1 then rk1 (On19 k40) (W18.1 ((fun q => if q = 0 then t else t7) 0)).1 (W18.1 ((fun q => if q = 0 then t else t7) 0)).2 else if 2 = 2 then rk2 (On19 k40) (W18.1 ((fun q => if q = 0 then t else t7) 0)).1 (W18.1 ((fun q => if q = 0 then t else t7) 0)).2 (W18.1 ((fun q => if q = 0 then t else t7) 1)).1 (W18.1 ((fun q => if q = 0 then t else t7) 1)).2 else (2, 0)) (if 2 = 2 then (On19 k40, (fun q => if q = 0 then t else t7) 0, (fun q => if q = 0 then t else t7) 1) else (0, 0, 0)) none
              rw [← hW53] at at55
              have b56 : M46 1225 = some (.inr (12, [.ref 1226, .ref 1227, .ref 1228, .ref 1213, .ref 1220, .ref 1212, .int (nI n), .int (nI ((tok f n a8).2.1)), .int (nI ((tok f n a8).2.2.1)), .int tk25, .int (nI (o + 1)), .long nu26, .ref 1229, .int (nI l27), .ref 1230, .int (nI (tp + 2)), .int (-1), .ref 1231, .int (nI vb15), .int kn29, .int rk10, .ref 1232])) := (hf50 1225 (by omega)).trans ((am_up_ne (show 1225 ≠ 1230 from by decide)).trans (am_up_eq _ _ _))
              have b57 : M46 1229 = some (.inl (0, 4096, .inl g28)) := (hf50 1229 (by omega)).trans ((am_up_ne (show 1229 ≠ 1230 from by decide)).trans ((am_up_ne (show 1229 ≠ 1225 from by decide)).trans (hw38)))
              have b58 : M46 1230 = some (.inl (1, 4200, .inl (upd S9 (tp + 1) (nI t7)))) := (hf50 1230 (by omega)).trans (am_up_eq _ _ _)
              have b59 : M46 1232 = some (.inl (0, 4096, .inl kc34)) := (hf50 1232 (by omega)).trans ((am_up_ne (show 1232 ≠ 1230 from by decide)).trans ((am_up_ne (show 1232 ≠ 1225 from by decide)).trans (hk35)))
              have hm60 : mb f M46 := mb_fr hm31 (fun i hi => (hf50 i (by omega)).trans ((am_up_ne (show i ≠ 1230 from by omega)).trans ((am_up_ne (show i ≠ 1225 from by omega)).trans (rfl))))
              have fr61 : pf_fr M M46 := fun i hi => (hf50 i (by omega)).trans ((am_up_ne (show i ≠ 1230 from by omega)).trans ((am_up_ne (show i ≠ 1225 from by omega)).trans ((fr40 i hi))))
              have hR62 : RS LU M46 (sz11 + 1) (pt12 + 2) ns13 tx14 vb15 e116 e217 W52 On19 Vx20 := ⟨_, _, _, _, hR51⟩
              show am_V G _ _ _ _ _ 220 [(8, .int (nI t7)), (7, .int (nI tp)), (6, .int (nI k40)), (4, .int (rkN (tok f n aC).2.2.2.2)), (2, .int (nI t)), (1, .int mo), (0, .ref 1225)] [.int (nI sz11)] M46 nx 0 0
              refine v_istore_n (L1 := [(2, .int (nI sz11)), (8, .int (nI t7)), (7, .int (nI tp)), (6, .int (nI k40)), (4, .int (rkN (tok f n aC).2.2.2.2)), (1, .int mo), (0, .ref 1225)]) (am_Dk d_MR_term (k := 112) rfl) (by decide) rfl ?_
              refine v_aload_n (am_Dk d_MR_term (k := 113) rfl) rfl ?_
              refine v_iload (am_Dk d_MR_term (k := 114) rfl) rfl ?_
              refine v_put (am_Dk d_MR_term (k := 115) rfl) f_MR_102 b56 (Nat.le_of_ble_eq_true rfl) rfl rfl ?_
              refine v_iload (am_Dk d_MR_term (k := 116) rfl) rfl ?_
              refine v_istore_n (L1 := [(3, .int (rkN (tok f n aC).2.2.2.2)), (2, .int (nI sz11)), (8, .int (nI t7)), (7, .int (nI tp)), (6, .int (nI k40)), (4, .int (rkN (tok f n aC).2.2.2.2)), (1, .int mo), (0, .ref 1225)]) (am_Dk d_MR_term (k := 117) rfl) (by decide) rfl ?_
              refine v_goto (tgt := 44) (am_Dk d_MR_term (k := 118) rfl) (by decide) ?_
              have hkO : On19 k40 = 0 := (pe22_4 k40 q442).trans (q443.trans sp_comma)
              have hat1 := at55.1
              rw [if_neg (by decide), if_pos rfl, hkO] at hat1
              have hat2 := at55.2.1
              rw [if_pos rfl, hkO] at hat2
              have hOpt : OpN f n W18 t wT := OpN_ext hOp pe22_2 (by omega)
              have hres : TRes f n lu o mo a sz W52 a8 (rkN (tok f n aC).2.2.2.2) (sz11 + 1) sz11 := by
                rw [hrk9]
                rcases tr23 with ⟨wU, roU, L8, R8, hTU, hOpU, hroU, hchU⟩ | ⟨hk10, hTB⟩
                · have hTE := q_inf (ro := 0) ee24.1 hTO hi hTU ee24.2 (Or.inr ⟨rfl, by rw [hn1]; exact Nat.le_refl _⟩)
                  rw [show sz2 - sz + (sz11 - sz2) + 1 = sz11 + 1 - sz from by omega] at hTE
                  have e1 : W18.1 t = (wT.1, wT.2.1) := hOpt.1
                  have e2 : W18.1 t7 = (wU.1, wU.2.1) := hOpU.1
                  have e3 : W52.1 sz11 = rk2 0 wT.1 wT.2.1 wU.1 wU.2.1 := by
                    rw [hat1]
                    show rk2 0 (W18.1 (if 0 = 0 then t else t7)).1 (W18.1 (if 0 = 0 then t else t7)).2 (W18.1 (if 1 = 0 then t else t7)).1 (W18.1 (if 1 = 0 then t else t7)).2 = _
                    rw [if_pos rfl, if_neg (by decide), e1, e2]
                  refine Or.inl ⟨_, _, _, _, hTE, ⟨e3.trans ?_, by rw [at55.2.2]; exact (by decide : ¬ (0 : Int32) < 0)⟩, by rw [hat2], fun _ => ?_⟩
                  · rw [rk2_0, hn1, rk2_1]
                  · rw [hat2]
                    refine ⟨?_, ?_, ?_, ?_⟩
                    · show (if 0 = 0 then t else t7) < _
                      rw [if_pos rfl]; omega
                    · show (if 1 = 0 then t else t7) < _
                      rw [if_neg (by decide)]; omega
                    · show OpN f n _ (if 0 = 0 then t else t7) _
                      rw [if_pos rfl]
                      exact OpN_ext hOpt ge54 (by omega)
                    · show OpN f n _ (if 1 = 0 then t else t7) _
                      rw [if_neg (by decide)]
                      exact OpN_ext hOpU ge54 (by omega)
                · exact Or.inr ⟨hk10, q_infB hn hTO hi (Or.inr ⟨ee24.1, hTB⟩)⟩
              exact v_drop (ihK _ a8 _ _ _ _ _ _ _ _ _ _ _ _ sz11 _ (by omega) (show PS f n LU (am_up M46 1225 (.inr (12, [.ref 1226, .ref 1227, .ref 1228, .ref 1213, .ref 1220, .ref 1212, .int (nI n), .int (nI ((tok f n a8).2.1)), .int (nI ((tok f n a8).2.2.1)), .int tk25, .int (nI (o + 1)), .long nu26, .ref 1229, .int (nI l27), .ref 1230, .int (nI tp), .int (-1), .ref 1231, .int (nI vb15), .int kn29, .int rk10, .ref 1232]))) a8 (o + 1) tp (upd S9 (tp + 1) (nI t7)) rk10 (sz11 + 1) (pt12 + 2) ns13 tx14 vb15 e116 e217 W52 On19 Vx20 from ⟨⟨by omega, by omega, by omega, by omega, by omega, by omega, by omega, by omega, by omega, by omega⟩, mb_fr hm60 (fun i hi => (am_up_ne (show i ≠ 1225 from by omega)).trans (rfl)), RS_fr hR62 (fun i hi => (am_up_ne (show i ≠ 1225 from by omega)).trans (rfl)), (am_up_ne (show 1230 ≠ 1225 from by decide)).trans (b58), ⟨_, (am_up_ne (show 1232 ≠ 1225 from by decide)).trans (b59)⟩, tk25, nu26, l27, g28, kn29, am_up_eq _ _ _, hs37, (am_up_ne (show 1229 ≠ 1225 from by decide)).trans (b57), hg39⟩) (fun i hi => (am_up_ne (show i ≠ 1225 from by omega)).trans ((fr61 i hi))) ⟨by omega, by omega, gh_trans (gh_trans px_2 pe22_2 (by omega)) ge54 (by omega), by omega, fun j hj => (pe22_4 j (by omega)).trans ((q445 j (by omega)).trans (px_4 j hj)), fun j hj => (upd_ne _ _ (by omega)).trans ((pe22_5 j (by omega)).trans ((upd_ne _ _ (by omega)).trans (px_5 j hj))), by omega, by omega, by omega⟩ hres) (by simp)
            refine v_aload_n (am_Dk d_MR_term (k := 76) rfl) rfl ?_
            refine v_iload (am_Dk d_MR_term (k := 77) rfl) rfl ?_
            refine v_sipush (v := 1100) (am_Dk d_MR_term (k := 78) rfl) (by decide) ?_
            refine v_icmp_eq (tgt := 172) (am_Dk d_MR_term (k := 79) rfl) (by decide) (fun c65 => ?_) (fun c65 => ?_)
            · have m0 : kn_inf (tok f n aC).2.2.2.2 = 1100 ∨ kn_inf (tok f n aC).2.2.2.2 = 1050 ∨ kn_inf (tok f n aC).2.2.2.2 = 1000 := Or.inl (hrk9.symm.trans c65)
              refine v_iload (am_Dk d_MR_term (k := 86) rfl) rfl ?_
              refine v_goto (tgt := 181) (am_Dk d_MR_term (k := 87) rfl) (by decide) ?_
              exact h181 _ (hrk9.trans (hm1 m0))
            · have n1100 : ¬ kn_inf (tok f n aC).2.2.2.2 = 1100 := fun z => c65 (hrk9.trans z)
              refine v_iload (am_Dk d_MR_term (k := 80) rfl) rfl ?_
              refine v_sipush (v := 1050) (am_Dk d_MR_term (k := 81) rfl) (by decide) ?_
              refine v_icmp_eq (tgt := 172) (am_Dk d_MR_term (k := 82) rfl) (by decide) (fun c66 => ?_) (fun c66 => ?_)
              · have m0 : kn_inf (tok f n aC).2.2.2.2 = 1100 ∨ kn_inf (tok f n aC).2.2.2.2 = 1050 ∨ kn_inf (tok f n aC).2.2.2.2 = 1000 := Or.inr (Or.inl (hrk9.symm.trans c66))
                refine v_iload (am_Dk d_MR_term (k := 86) rfl) rfl ?_
                refine v_goto (tgt := 181) (am_Dk d_MR_term (k := 87) rfl) (by decide) ?_
                exact h181 _ (hrk9.trans (hm1 m0))
              · have n1050 : ¬ kn_inf (tok f n aC).2.2.2.2 = 1050 := fun z => c66 (hrk9.trans z)
                refine v_iload (am_Dk d_MR_term (k := 83) rfl) rfl ?_
                refine v_sipush (v := 1000) (am_Dk d_MR_term (k := 84) rfl) (by decide) ?_
                refine v_icmp_ne (tgt := 177) (am_Dk d_MR_term (k := 85) rfl) (by decide) (fun c67 => ?_) (fun c67 => ?_)
                · have m1 : ¬ (kn_inf (tok f n aC).2.2.2.2 = 1100 ∨ kn_inf (tok f n aC).2.2.2.2 = 1050 ∨ kn_inf (tok f n aC).2.2.2.2 = 1000) := fun z => z.elim n1100 (fun y => y.elim n1050 (fun x => c67 (hrk9.trans x)))
                  refine v_iload (am_Dk d_MR_term (k := 88) rfl) rfl ?_
                  refine v_iconst (v := 1) (am_Dk d_MR_term (k := 89) rfl) (by decide) ?_
                  refine v_isub (am_Dk d_MR_term (k := 90) rfl) ?_
                  exact h181 _ (by rw [hrk9]; exact hm2x m1)
                · have m0 : kn_inf (tok f n aC).2.2.2.2 = 1100 ∨ kn_inf (tok f n aC).2.2.2.2 = 1050 ∨ kn_inf (tok f n aC).2.2.2.2 = 1000 := Or.inr (Or.inr (hrk9.symm.trans c67))
                  refine v_iload (am_Dk d_MR_term (k := 86) rfl) rfl ?_
                  refine v_goto (tgt := 181) (am_Dk d_MR_term (k := 87) rfl) (by decide) ?_
                  exact h181 _ (hrk9.trans (hm1 m0))
        refine v_aload_n (am_Dk d_MR_term (k := 25) rfl) rfl ?_
        refine v_callV (rest := []) (As := []) (mc' := 0) (ms' := 0) (am_Dk d_MR_term (k := 26) rfl) c_MR_198 (Or.inl ⟨_, _, _, _, _, hr2, cq_ok12⟩) (t_MR_rank G (d := 5) (le := 0) (by omega) hr2 hw2 (by omega) hsd hsk hra hrk) (by omega) (by omega) (by omega) (by simp [Value.category]) rfl (fun v1 M2 n3 h4 => ?_) (fun _ _ _ h4 => ?_)
        rotate_left
        · exact absurd h4.1 (by simp)
        obtain ⟨h4, e5, e6⟩ := h4
        replace e5 := e5.symm
        replace e6 := e6.symm
        subst e5
        subst e6
        cases h4
        show am_V G _ _ _ _ _ 48 [(3, .int r), (2, .int (nI t)), (1, .int mo), (0, .ref 1225)] [.int (if tk2 = 10 then 1000 else if tk2 = 3 then rkN (spg l2 g2) else -1)] M2 nx 0 0
        rw [rank_v qb_0 hsc2]
        show am_V G _ _ _ _ _ 48 [(3, .int r), (2, .int (nI t)), (1, .int mo), (0, .ref 1225)] [.int (rkN (tok f n aC).2.2.2.2)] M2 nx 0 0
        refine v_istore (L1 := [(4, .int (rkN (tok f n aC).2.2.2.2)), (3, .int r), (2, .int (nI t)), (1, .int mo), (0, .ref 1225)]) (am_Dk d_MR_term (k := 27) rfl) (by decide) rfl ?_
        refine v_iload (am_Dk d_MR_term (k := 28) rfl) rfl ?_
        refine v_sipush (v := 500) (am_Dk d_MR_term (k := 29) rfl) (by decide) ?_
        refine v_icmp_eq (tgt := 66) (am_Dk d_MR_term (k := 30) rfl) (by decide) (fun c7 => ?_) (fun c7 => ?_)
        · have e54 : rkN (tok f n aC).2.2.2.2 = 500 ∨ rkN (tok f n aC).2.2.2.2 = 400 := Or.inl c7
          refine v_iload (am_Dk d_MR_term (k := 34) rfl) rfl ?_
          refine v_goto (tgt := 75) (am_Dk d_MR_term (k := 35) rfl) (by decide) ?_
          refine v_istore (L1 := [(5, .int (rkN (tok f n aC).2.2.2.2)), (4, .int (rkN (tok f n aC).2.2.2.2)), (3, .int r), (2, .int (nI t)), (1, .int mo), (0, .ref 1225)]) (am_Dk d_MR_term (k := 39) rfl) (by decide) rfl ?_
          refine v_iload (am_Dk d_MR_term (k := 40) rfl) rfl ?_
          refine v_iconst (v := (-1)) (am_Dk d_MR_term (k := 41) rfl) (by decide) ?_
          refine v_icmp_eq (tgt := 233) (am_Dk d_MR_term (k := 42) rfl) (by decide) (fun c8 => ?_) (fun c8 => ?_)
          · have hce : c_end f n mo aC r := fun z => hrc.elim (fun y => y.2 z.1) (fun y => absurd (y.1.symm.trans c8) (fun q => by rw [q] at z; exact absurd z.1 (by decide)))
            exact v_drop (h233 M2 aC S2 rkF sz2 pt2 ns2 tx2 vb2 f1 f2 W2 On2 Vx2 t r h2c fr2 hpxc hTR hce) (by simp)
          · obtain ⟨c1, c2, c3, c4, c5, c6, c7⟩ := hrc.resolve_left (fun y => c8 y.1)
            refine v_iload (am_Dk d_MR_term (k := 43) rfl) rfl ?_
            refine v_iload_n (am_Dk d_MR_term (k := 44) rfl) rfl ?_
            refine v_icmp_gt (tgt := 233) (am_Dk d_MR_term (k := 45) rfl) (by decide) (fun c9 => ?_) (fun c9 => ?_)
            · have hce : c_end f n mo aC r := fun z => absurd z.2.1 (Int32.not_le.mpr (by rw [← c1]; exact c9))
              exact v_drop (h233 M2 aC S2 rkF sz2 pt2 ns2 tx2 vb2 f1 f2 W2 On2 Vx2 t r h2c fr2 hpxc hTR hce) (by simp)
            · have hle := Int32.not_lt.mp c9
              rw [c1] at hle
              refine v_iload_n (am_Dk d_MR_term (k := 46) rfl) rfl ?_
              refine v_iload (am_Dk d_MR_term (k := 47) rfl) rfl ?_
              refine v_icmp_le (tgt := 98) (am_Dk d_MR_term (k := 48) rfl) (by decide) (fun c10 => ?_) (fun c10 => ?_)
              · have hml : r ≤ kn_ml (tok f n aC).2.2.2.2 := by first | (rw [← c3 (by rw [← c1]; exact e54), ← c1]; exact c10) | (rw [← c4 (by rw [← c1]; exact n54), ← c1]; exact c10)
                exact v_drop (h98 (fun z => z ⟨c2, hle, hml⟩) ⟨c1, c5, c6, c7⟩) (by simp)
              · have hce : c_end f n mo aC r := fun z => c10 (by first | (rw [c1, c3 (by rw [← c1]; exact e54)]; exact z.2.2) | (rw [c1, c4 (by rw [← c1]; exact n54)]; exact z.2.2))
                refine v_goto (tgt := 233) (am_Dk d_MR_term (k := 49) rfl) (by decide) ?_
                exact v_drop (h233 M2 aC S2 rkF sz2 pt2 ns2 tx2 vb2 f1 f2 W2 On2 Vx2 t r h2c fr2 hpxc hTR hce) (by simp)
        · have n5 := c7
          refine v_iload (am_Dk d_MR_term (k := 31) rfl) rfl ?_
          refine v_sipush (v := 400) (am_Dk d_MR_term (k := 32) rfl) (by decide) ?_
          refine v_icmp_ne (tgt := 71) (am_Dk d_MR_term (k := 33) rfl) (by decide) (fun c11 => ?_) (fun c11 => ?_)
          · have n54 : ¬ (rkN (tok f n aC).2.2.2.2 = 500 ∨ rkN (tok f n aC).2.2.2.2 = 400) := fun z => z.elim n5 c11
            refine v_iload (am_Dk d_MR_term (k := 36) rfl) rfl ?_
            refine v_iconst (v := 1) (am_Dk d_MR_term (k := 37) rfl) (by decide) ?_
            refine v_isub (am_Dk d_MR_term (k := 38) rfl) ?_
            refine v_istore (L1 := [(5, .int (((rkN (tok f n aC).2.2.2.2)) - (1))), (4, .int (rkN (tok f n aC).2.2.2.2)), (3, .int r), (2, .int (nI t)), (1, .int mo), (0, .ref 1225)]) (am_Dk d_MR_term (k := 39) rfl) (by decide) rfl ?_
            refine v_iload (am_Dk d_MR_term (k := 40) rfl) rfl ?_
            refine v_iconst (v := (-1)) (am_Dk d_MR_term (k := 41) rfl) (by decide) ?_
            refine v_icmp_eq (tgt := 233) (am_Dk d_MR_term (k := 42) rfl) (by decide) (fun c12 => ?_) (fun c12 => ?_)
            · have hce : c_end f n mo aC r := fun z => hrc.elim (fun y => y.2 z.1) (fun y => absurd (y.1.symm.trans c12) (fun q => by rw [q] at z; exact absurd z.1 (by decide)))
              exact v_drop (h233 M2 aC S2 rkF sz2 pt2 ns2 tx2 vb2 f1 f2 W2 On2 Vx2 t r h2c fr2 hpxc hTR hce) (by simp)
            · obtain ⟨c1, c2, c3, c4, c5, c6, c7⟩ := hrc.resolve_left (fun y => c12 y.1)
              refine v_iload (am_Dk d_MR_term (k := 43) rfl) rfl ?_
              refine v_iload_n (am_Dk d_MR_term (k := 44) rfl) rfl ?_
              refine v_icmp_gt (tgt := 233) (am_Dk d_MR_term (k := 45) rfl) (by decide) (fun c13 => ?_) (fun c13 => ?_)
              · have hce : c_end f n mo aC r := fun z => absurd z.2.1 (Int32.not_le.mpr (by rw [← c1]; exact c13))
                exact v_drop (h233 M2 aC S2 rkF sz2 pt2 ns2 tx2 vb2 f1 f2 W2 On2 Vx2 t r h2c fr2 hpxc hTR hce) (by simp)
              · have hle := Int32.not_lt.mp c13
                rw [c1] at hle
                refine v_iload_n (am_Dk d_MR_term (k := 46) rfl) rfl ?_
                refine v_iload (am_Dk d_MR_term (k := 47) rfl) rfl ?_
                refine v_icmp_le (tgt := 98) (am_Dk d_MR_term (k := 48) rfl) (by decide) (fun c14 => ?_) (fun c14 => ?_)
                · have hml : r ≤ kn_ml (tok f n aC).2.2.2.2 := by first | (rw [← c3 (by rw [← c1]; exact e54), ← c1]; exact c14) | (rw [← c4 (by rw [← c1]; exact n54), ← c1]; exact c14)
                  exact v_drop (h98 (fun z => z ⟨c2, hle, hml⟩) ⟨c1, c5, c6, c7⟩) (by simp)
                · have hce : c_end f n mo aC r := fun z => c14 (by first | (rw [c1, c3 (by rw [← c1]; exact e54)]; exact z.2.2) | (rw [c1, c4 (by rw [← c1]; exact n54)]; exact z.2.2))
                  refine v_goto (tgt := 233) (am_Dk d_MR_term (k := 49) rfl) (by decide) ?_
                  exact v_drop (h233 M2 aC S2 rkF sz2 pt2 ns2 tx2 vb2 f1 f2 W2 On2 Vx2 t r h2c fr2 hpxc hTR hce) (by simp)
          · have e54 : rkN (tok f n aC).2.2.2.2 = 500 ∨ rkN (tok f n aC).2.2.2.2 = 400 := Or.inr c11
            refine v_iload (am_Dk d_MR_term (k := 34) rfl) rfl ?_
            refine v_goto (tgt := 75) (am_Dk d_MR_term (k := 35) rfl) (by decide) ?_
            refine v_istore (L1 := [(5, .int (rkN (tok f n aC).2.2.2.2)), (4, .int (rkN (tok f n aC).2.2.2.2)), (3, .int r), (2, .int (nI t)), (1, .int mo), (0, .ref 1225)]) (am_Dk d_MR_term (k := 39) rfl) (by decide) rfl ?_
            refine v_iload (am_Dk d_MR_term (k := 40) rfl) rfl ?_
            refine v_iconst (v := (-1)) (am_Dk d_MR_term (k := 41) rfl) (by decide) ?_
            refine v_icmp_eq (tgt := 233) (am_Dk d_MR_term (k := 42) rfl) (by decide) (fun c15 => ?_) (fun c15 => ?_)
            · have hce : c_end f n mo aC r := fun z => hrc.elim (fun y => y.2 z.1) (fun y => absurd (y.1.symm.trans c15) (fun q => by rw [q] at z; exact absurd z.1 (by decide)))
              exact v_drop (h233 M2 aC S2 rkF sz2 pt2 ns2 tx2 vb2 f1 f2 W2 On2 Vx2 t r h2c fr2 hpxc hTR hce) (by simp)
            · obtain ⟨c1, c2, c3, c4, c5, c6, c7⟩ := hrc.resolve_left (fun y => c15 y.1)
              refine v_iload (am_Dk d_MR_term (k := 43) rfl) rfl ?_
              refine v_iload_n (am_Dk d_MR_term (k := 44) rfl) rfl ?_
              refine v_icmp_gt (tgt := 233) (am_Dk d_MR_term (k := 45) rfl) (by decide) (fun c16 => ?_) (fun c16 => ?_)
              · have hce : c_end f n mo aC r := fun z => absurd z.2.1 (Int32.not_le.mpr (by rw [← c1]; exact c16))
                exact v_drop (h233 M2 aC S2 rkF sz2 pt2 ns2 tx2 vb2 f1 f2 W2 On2 Vx2 t r h2c fr2 hpxc hTR hce) (by simp)
              · have hle := Int32.not_lt.mp c16
                rw [c1] at hle
                refine v_iload_n (am_Dk d_MR_term (k := 46) rfl) rfl ?_
                refine v_iload (am_Dk d_MR_term (k := 47) rfl) rfl ?_
                refine v_icmp_le (tgt := 98) (am_Dk d_MR_term (k := 48) rfl) (by decide) (fun c17 => ?_) (fun c17 => ?_)
                · have hml : r ≤ kn_ml (tok f n aC).2.2.2.2 := by first | (rw [← c3 (by rw [← c1]; exact e54), ← c1]; exact c17) | (rw [← c4 (by rw [← c1]; exact n54), ← c1]; exact c17)
                  exact v_drop (h98 (fun z => z ⟨c2, hle, hml⟩) ⟨c1, c5, c6, c7⟩) (by simp)
                · have hce : c_end f n mo aC r := fun z => c17 (by first | (rw [c1, c3 (by rw [← c1]; exact e54)]; exact z.2.2) | (rw [c1, c4 (by rw [← c1]; exact n54)]; exact z.2.2))
                  refine v_goto (tgt := 233) (am_Dk d_MR_term (k := 49) rfl) (by decide) ?_
                  exact v_drop (h233 M2 aC S2 rkF sz2 pt2 ns2 tx2 vb2 f1 f2 W2 On2 Vx2 t r h2c fr2 hpxc hTR hce) (by simp)
    have PRIM : ∀ (nx : Nat) (M : am_M) (mo : Int32) (a tp : Nat) (S : Nat → Int32) (sz pt ns tx vb e1 e2 : Nat) (W : Gho) (On : Nat → Nat) (Vx : Nat → Option (Nat × (Nat → Int32))), PS f n LU M a (o + 1) tp S 0 sz pt ns tx vb e1 e2 W On Vx → 200 ≤ mo → am_Tr G m_MR_primary (4 * N + 12) 0 0 [.ref 1225, .int mo] M nx (RQ f n LU lu M nx o mo a (o + 1) tp S sz pt ns W On (fun _ _ => True) (fun w => TBad f n lu o mo a w)) := fun nx M mo a tp S sz pt ns tx vb e1 e2 W On Vx h h200 => t_MR_primary G (rk := 0) (by omega) hb hn h ho h200 hU IH (by omega)
    refine v_aload_n (am_Dk d_MR_term (k := 0) rfl) rfl ?_
    refine v_get (am_Dk d_MR_term (k := 1) rfl) f_MR_99 hr rfl ?_
    refine v_bipush (v := 100) (am_Dk d_MR_term (k := 2) rfl) (by decide) ?_
    refine v_icmp_ne (tgt := 18) (am_Dk d_MR_term (k := 3) rfl) (by decide) (fun c1 => ?_) (fun c1 => ?_)
    · have Nc1 : ¬ o = 100 := fun z => c1 ((nI_eq (a := o) (b := 100) (by omega) (by omega)).mpr z)
      refine v_aload_n (am_Dk d_MR_term (k := 9) rfl) rfl ?_
      refine v_dup (am_Dk d_MR_term (k := 10) rfl) rfl ?_
      refine v_get (am_Dk d_MR_term (k := 11) rfl) f_MR_99 hr rfl ?_
      refine v_iconst (v := 1) (am_Dk d_MR_term (k := 12) rfl) (by decide) ?_
      refine v_iadd (am_Dk d_MR_term (k := 13) rfl) ?_
      rw [nI_1]
      refine v_put (am_Dk d_MR_term (k := 14) rfl) f_MR_99 hr (Nat.le_of_ble_eq_true rfl) rfl rfl ?_
      refine v_aload_n (am_Dk d_MR_term (k := 15) rfl) rfl ?_
      refine v_iconst (v := 0) (am_Dk d_MR_term (k := 16) rfl) (by decide) ?_
      have m2 : (am_up M 1225 (.inr (12, [.ref 1226, .ref 1227, .ref 1228, .ref 1213, .ref 1220, .ref 1212, .int (nI n), .int (nI ((tok f n a).2.1)), .int (nI ((tok f n a).2.2.1)), .int tk, .int (nI (o + 1)), .long nu, .ref 1229, .int (nI l), .ref 1230, .int (nI tp), .int (-1), .ref 1231, .int (nI vb), .int kn, .int rk, .ref 1232]))) 1225 = some (.inr (12, [.ref 1226, .ref 1227, .ref 1228, .ref 1213, .ref 1220, .ref 1212, .int (nI n), .int (nI ((tok f n a).2.1)), .int (nI ((tok f n a).2.2.1)), .int tk, .int (nI (o + 1)), .long nu, .ref 1229, .int (nI l), .ref 1230, .int (nI tp), .int (-1), .ref 1231, .int (nI vb), .int kn, .int rk, .ref 1232])) := am_up_eq _ _ _
      refine v_put (am_Dk d_MR_term (k := 17) rfl) f_MR_204 m2 (Nat.le_of_ble_eq_true rfl) rfl rfl ?_
      rw [am_uu0 (a := 1225)]
      refine v_aload_n (am_Dk d_MR_term (k := 18) rfl) rfl ?_
      refine v_iload_n (am_Dk d_MR_term (k := 19) rfl) rfl ?_
      have m3 : (am_up M 1225 (.inr (12, [.ref 1226, .ref 1227, .ref 1228, .ref 1213, .ref 1220, .ref 1212, .int (nI n), .int (nI ((tok f n a).2.1)), .int (nI ((tok f n a).2.2.1)), .int tk, .int (nI (o + 1)), .long nu, .ref 1229, .int (nI l), .ref 1230, .int (nI tp), .int (-1), .ref 1231, .int (nI vb), .int kn, .int 0, .ref 1232]))) 1225 = some (.inr (12, [.ref 1226, .ref 1227, .ref 1228, .ref 1213, .ref 1220, .ref 1212, .int (nI n), .int (nI ((tok f n a).2.1)), .int (nI ((tok f n a).2.2.1)), .int tk, .int (nI (o + 1)), .long nu, .ref 1229, .int (nI l), .ref 1230, .int (nI tp), .int (-1), .ref 1231, .int (nI vb), .int kn, .int 0, .ref 1232])) := am_up_eq _ _ _
      have ps4 := (show PS f n LU (am_up M 1225 (.inr (12, [.ref 1226, .ref 1227, .ref 1228, .ref 1213, .ref 1220, .ref 1212, .int (nI n), .int (nI ((tok f n a).2.1)), .int (nI ((tok f n a).2.2.1)), .int tk, .int (nI (o + 1)), .long nu, .ref 1229, .int (nI l), .ref 1230, .int (nI tp), .int (-1), .ref 1231, .int (nI vb), .int kn, .int 0, .ref 1232]))) a (o + 1) tp S 0 sz pt ns tx vb e1 e2 W On Vx from ⟨⟨by omega, by omega, by omega, by omega, by omega, by omega, by omega, by omega, by omega, by omega⟩, mb_fr hm (fun i hi => (am_up_ne (show i ≠ 1225 from by omega)).trans (rfl)), RS_fr hR (fun i hi => (am_up_ne (show i ≠ 1225 from by omega)).trans (rfl)), (am_up_ne (show 1230 ≠ 1225 from by decide)).trans (hS), ⟨_, (am_up_ne (show 1232 ≠ 1225 from by decide)).trans (hkc)⟩, tk, nu, l, g, kn, am_up_eq _ _ _, hsc, (am_up_ne (show 1229 ≠ 1225 from by decide)).trans (hw), hg⟩)
      refine v_callV (rest := []) (As := [.int mo]) (mc' := 0) (ms' := 0) (am_Dk d_MR_term (k := 20) rfl) c_MR_206 (Or.inl ⟨_, _, _, _, _, m3, cq_ok12⟩) (PRIM _ _ mo _ _ _ _ _ _ _ _ _ _ _ _ _ ps4 h200) (by omega) (by omega) (by omega) (by simp [Value.category]) rfl (fun v5 M6 n7 h8 => ?_) (fun x9 M6 n7 h8 => ?_)
      rotate_left
      · obtain ⟨ex9, pfT, hT⟩ := h8
        replace ex9 := ex9.symm
        subst ex9
        rcases hT with ⟨_, _, _, _, _, _, _, _, _, _, _, _, _, _, hx9, _⟩ | ⟨wT, hx9, pxT, bT⟩
        · cases hx9
        · cases hx9
          exact vt_leave (fun q hq => by cases hq) (by omega) (by omega) ⟨rfl, (fun i hi => (pfT i hi).trans ((am_up_ne (show i ≠ 1225 from by omega)).trans ((fr0 i hi)))), Or.inr ⟨wT, rfl, pxT, Or.inr ⟨ho, bT⟩⟩⟩
      obtain ⟨ex9, pf23, hT⟩ := h8
      replace ex9 := ex9.symm
      subst ex9
      rcases hT with ⟨t9, a10, S11, rk12, sz13, pt14, ns15, tx16, vb17, e118, e219, W20, On21, Vx22, hx9, psx, pe24, tr25, ee26⟩ | ⟨_, hx9, _⟩
      rotate_left
      · cases hx9
      cases hx9
      obtain ⟨pb32, hm33, hR34, hS35, ⟨kc36, hk37⟩, tk27, nu28, l29, g30, kn31, hr38, hs39, hw40, hg41⟩ := psx
      obtain ⟨pb32_0, pb32_1, pb32_2, pb32_3, pb32_4, pb32_5, pb32_6, pb32_7, pb32_8, pb32_9⟩ := pb32
      obtain ⟨pe24_0, pe24_1, pe24_2, pe24_3, pe24_4, pe24_5, pe24_6, pe24_7, pe24_8⟩ := pe24
      replace hr38 : M6 1225 = some (.inr (12, [.ref 1226, .ref 1227, .ref 1228, .ref 1213, .ref 1220, .ref 1212, .int (nI n), .int (nI ((tok f n a10).2.1)), .int (nI ((tok f n a10).2.2.1)), .int tk27, .int (nI (o + 1)), .long nu28, .ref 1229, .int (nI l29), .ref 1230, .int (nI tp), .int (-1), .ref 1231, .int (nI vb17), .int kn31, .int rk12, .ref 1232])) := hr38
      have k_hs39 := tok_ok f pb32_0
      have p_hs39 := tok_pos f pb32_0
      have l_hs39 := hs39.2.2.1
      have fr42 : pf_fr M M6 := fun i hi => (pf23 i hi).trans ((am_up_ne (show i ≠ 1225 from by omega)).trans ((fr0 i hi)))
      show am_V G _ _ _ _ _ 38 [(0, .ref 1225), (1, .int mo)] [.int (nI t9)] M6 nx 0 0
      refine v_istore_n (L1 := [(2, .int (nI t9)), (0, .ref 1225), (1, .int mo)]) (am_Dk d_MR_term (k := 21) rfl) (by decide) rfl ?_
      refine v_aload_n (am_Dk d_MR_term (k := 22) rfl) rfl ?_
      refine v_get (am_Dk d_MR_term (k := 23) rfl) f_MR_204 hr38 rfl ?_
      refine v_istore_n (L1 := [(3, .int rk12), (2, .int (nI t9)), (0, .ref 1225), (1, .int mo)]) (am_Dk d_MR_term (k := 24) rfl) (by decide) rfl ?_
      exact v_drop (h44 (n + 1) _ a10 _ _ _ _ _ _ _ _ _ _ _ _ t9 _ (by omega) (show PS f n LU M6 a10 (o + 1) tp S11 rk12 sz13 pt14 ns15 tx16 vb17 e118 e219 W20 On21 Vx22 from ⟨⟨by omega, by omega, by omega, by omega, by omega, by omega, by omega, by omega, by omega, by omega⟩, mb_fr hm33 (fun i hi => rfl), RS_fr hR34 (fun i hi => rfl), hS35, ⟨_, hk37⟩, tk27, nu28, l29, g30, kn31, hr38, hs39, hw40, hg41⟩) (fun i hi => (fr42 i hi)) ⟨pe24_0, pe24_1, pe24_2, pe24_3, pe24_4, pe24_5, pe24_6, pe24_7, pe24_8⟩ tr25) (by simp)
    · exact absurd ((nI_eq (a := o) (b := 100) (by omega) (by omega)).mp c1) (by omega)
