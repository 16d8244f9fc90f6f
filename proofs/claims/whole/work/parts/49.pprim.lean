/-! THE REFERENCE'S PARSER: PRIMARIES (mine; rows laid by the walker) -/
/-- both sides look a variable up alike; none is called _ -/
def luOk (f : Nat → Int32) (n : Nat) (LU : Nat → (Nat → Int32) → Option Int64) (lu : Nat → Nat → Option Int64) : Prop := (∀ p e, p ≤ e → e ≤ n → lu p e = LU (e - p) (fun i => f (p + i))) ∧ (∀ l g g', (∀ i, i < l → g i = g' i) → LU l g = LU l g') ∧ ∀ g, g 0 = 95 → LU 1 g = none
theorem tkR_out {k : Nat} {t : Int32} (h : tkR k t) (hk : k < 12) (h0 : ¬ k = 0) (h1 : ¬ k = 1) (h2 : ¬ k = 2) (h3 : ¬ k = 3) (h4 : ¬ k = 4) (h5 : ¬ k = 5) : t.toInt < 1 ∨ 6 < t.toInt := by
  obtain ⟨a, b⟩ := h
  rcases (show k = 6 ∨ k = 7 ∨ k = 8 ∨ k = 9 ∨ k = 10 ∨ k = 11 by omega) with h | h | h | h | h | h
  all_goals subst h
  all_goals first
    | (have := a (by decide); subst this; decide)
    | (rcases b (by decide) with h | h | h <;> subst h <;> decide)
theorem var_op {f : Nat → Int32} {n a : Nat} {LU : Nat → (Nat → Int32) → Option Int64} {lu : Nat → Nat → Option Int64} (hU : luOk f n LU lu) (ha : a ≤ n) (hn : n ≤ 4096) {tk : Int32} {nu : Int64} {l : Nat} {g : Nat → Int32} (hk : (tok f n a).1 = 0) (hs : scT f (tok f n a) tk nu l g) (hb : tbB f) {W : Gho} {x : Nat} {q : Option (Nat × (Nat → Int32))} (hq : if l = 1 ∧ g 0 = 95 then q = none else ∃ g1, q = some (l, g1) ∧ ∀ i, i < l → g1 i = g i) (h1 : W.1 x = wV LU q) (h3 : W.2.2 x = q) : OpN f n W x (c_vo f n lu a) := by
  have t := tok_ok f ha
  have tp := tok_pos f ha (by rw [hk]; decide)
  obtain ⟨hl, hg⟩ := hs.2.2.2.1 hk
  obtain ⟨u1, u2, u3⟩ := hU
  have e0 := u1 (tok f n a).2.1 (tok f n a).2.2.1 (by omega) (by omega)
  have e1 : LU ((tok f n a).2.2.1 - (tok f n a).2.1) (fun i => f ((tok f n a).2.1 + i)) = LU l g := by
    rw [show (tok f n a).2.2.1 - (tok f n a).2.1 = l from by omega]
    exact u2 _ _ _ (fun i hi => (hg i hi).symm)
  rw [e1] at e0
  have hcp : tb f n (tok f n a).2.1 = 95 ↔ f (tok f n a).2.1 = 95 := by
    have := lk_c hb n (tok f n a).2.1 (c := 95) (by decide)
    rw [lk, if_pos (by omega)] at this
    exact this.symm
  have hc : ((tok f n a).2.2.1 = (tok f n a).2.1 + 1 ∧ tb f n (tok f n a).2.1 = 95) ↔ (l = 1 ∧ g 0 = 95) := by
    rw [hcp]
    constructor
    · intro ⟨z1, z2⟩
      refine ⟨by omega, ?_⟩
      rw [hg 0 (by omega)]
      exact z2
    · intro ⟨z1, z2⟩
      refine ⟨by omega, ?_⟩
      rw [hg 0 (by omega)] at z2
      exact z2
  by_cases hz : l = 1 ∧ g 0 = 95
  · rw [if_pos hz] at hq
    have e2 : lu (tok f n a).2.1 (tok f n a).2.2.1 = none := by rw [e0, hz.1]; exact u3 _ hz.2
    rw [OpN, h1, h3, hq, c_vo, e2, if_pos (hc.mpr hz), if_pos (hc.mpr hz)]
    exact ⟨rfl, (by decide : ¬ (0 : Int32) < 0)⟩
  · rw [if_neg hz] at hq
    obtain ⟨g1, q1, q2⟩ := hq
    have e3 : LU l g1 = LU l g := u2 _ _ _ q2
    rw [OpN, h1, h3, q1, c_vo, e0, if_neg (fun z => hz (hc.mp z)), if_neg (fun z => hz (hc.mp z))]
    refine ⟨?_, (tok f n a).2.1, (tok f n a).2.2.1, rfl, rfl, by omega, by omega, hl, fun i hi => (q2 i hi).trans (hg i hi)⟩
    show lvW (LU l g1) = _
    rw [e3]
    cases LU l g <;> rfl
set_option maxRecDepth 20000 in
theorem t_MR_primary (G : am_G) {d nx : Nat} (hd : 8 ≤ d) {M : am_M} {f : Nat → Int32} {n : Nat} {LU : Nat → (Nat → Int32) → Option Int64} {lu : Nat → Nat → Option Int64} (hb : tbB f) (hn : n ≤ 4096) {mo : Int32} {a o tp : Nat} {S : Nat → Int32} {rk : Int32} {sz pt ns tx vb e1 e2 : Nat} {W : Gho} {On : Nat → Nat} {Vx : Nat → Option (Nat × (Nat → Int32))} (h : PS f n LU M a (o + 1) tp S 0 sz pt ns tx vb e1 e2 W On Vx) (ho : o < 100) (h200 : 200 ≤ mo) (hU : luOk f n LU lu) {d0 : Nat} (IH : TermC G f n LU lu (o + 1) d0) (hd0 : d0 + 3 ≤ d) : am_Tr G m_MR_primary d 0 0 [.ref 1225, .int mo] M nx (RQ f n LU lu M nx o mo a (o + 1) tp S sz pt ns W On (fun _ _ => True) (fun w => TBad f n lu o mo a w)) := by
  refine am_TrOf (by decide) (Nat.le_of_ble_eq_true rfl) ?_
  show am_V G _ _ _ _ _ 0 [(0, .ref 1225), (1, .int mo)] [] M nx 0 0
  have hPS := h
  obtain ⟨hpb, hm, hR, hS, ⟨kc, hkc⟩, tk, nu, l, g, kn, hr, hsc, hw, hg⟩ := h
  replace hr : M 1225 = some (.inr (12, [.ref 1226, .ref 1227, .ref 1228, .ref 1213, .ref 1220, .ref 1212, .int (nI n), .int (nI ((tok f n a).2.1)), .int (nI ((tok f n a).2.2.1)), .int tk, .int (nI (o + 1)), .long nu, .ref 1229, .int (nI l), .ref 1230, .int (nI tp), .int (-1), .ref 1231, .int (nI vb), .int kn, .int 0, .ref 1232])) := hr
  obtain ⟨pb_0, pb_1, pb_2, pb_3, pb_4, pb_5, pb_6, pb_7, pb_8, pb_9⟩ := hpb
  have k_hsc := tok_ok f pb_0
  have p_hsc := tok_pos f pb_0
  have l_hsc := hsc.2.2.1
  have fr0 : pf_fr M M := fun i hi => rfl
  have tkq := tkR_eq hsc.1 k_hsc.1
  refine v_aload_n (am_Dk d_MR_primary (k := 0) rfl) rfl ?_
  refine v_get (am_Dk d_MR_primary (k := 1) rfl) f_MR_123 hr rfl ?_
  by_cases hk0 : (tok f n a).1 = 0
  · have htk : tk = 1 := by have := hsc.1.1 (by omega); rw [hk0] at this; exact this
    refine v_tableIn (tgt := 62) (off := 58) (am_Dk d_MR_primary (k := 2) rfl) (by rw [htk]; decide) (by rw [htk]; decide) (by rw [htk]; decide) (by decide) ?_
    refine v_aload_n (am_Dk d_MR_primary (k := 13) rfl) rfl ?_
    refine v_get (am_Dk d_MR_primary (k := 14) rfl) f_MR_81 hr rfl ?_
    refine v_aload_n (am_Dk d_MR_primary (k := 15) rfl) rfl ?_
    have hpp := p_hsc (by omega)
    obtain ⟨hlv, hgv⟩ := hsc.2.2.2.1 hk0
    obtain ⟨⟨Kd1, Nm1, Fi1, Ma1, Pa1, Nu1⟩, T1, F1, Va1, hX1⟩ := RS_fr (M1 := M) hR (fun i hi => rfl)
    refine v_callV (rest := [.ref 1213]) (As := []) (mc' := 0) (ms' := 0) (am_Dk d_MR_primary (k := 16) rfl) c_MR_232 (Or.inl ⟨_, _, _, _, _, hr, cq_ok12⟩) (t_MR_variable G (d := 3) (le := 0) (vd := 0) (l := l) (by omega) hX1 hr hw hg (by omega) (by omega) (by omega) (by omega) (by omega)) (by omega) (by omega) (by omega) (by simp [Value.category]) rfl (fun v2 M3 n4 h5 => ?_) (fun _ _ _ h5 => ?_)
    rotate_left
    · obtain ⟨_, _, _, _, _, _, _, _, _, hx9, _⟩ := h5; cases hx9
    obtain ⟨v6, vb7, ns8, tx9, On10, Vx11, T9, F9, Va9, h5, ex9, q121, q122, q123, q124, q125, q126, q127, q128, q129, q1210, q1211⟩ := h5
    cases h5
    replace ex9 := ex9.symm
    subst ex9
    replace q1210 : M3 1225 = some (.inr (12, [.ref 1226, .ref 1227, .ref 1228, .ref 1213, .ref 1220, .ref 1212, .int (nI n), .int (nI ((tok f n a).2.1)), .int (nI ((tok f n a).2.2.1)), .int tk, .int (nI (o + 1)), .long nu, .ref 1229, .int (nI l), .ref 1230, .int (nI tp), .int (-1), .ref 1231, .int (nI vb7), .int kn, .int 0, .ref 1232])) := q1210
    have b13 : M3 1229 = some (.inl (0, 4096, .inl g)) := (q1211 1229 (by omega) (by omega)).trans (hw)
    have b14 : M3 1230 = some (.inl (1, 4200, .inl S)) := (q1211 1230 (by omega) (by omega)).trans (hS)
    have b15 : M3 1232 = some (.inl (0, 4096, .inl kc)) := (q1211 1232 (by omega) (by omega)).trans (hkc)
    have hm16 : mb f M3 := mb_fr hm (fun i hi => (q1211 i (by omega) (by omega)).trans (rfl))
    have fr17 : pf_fr M M3 := fun i hi => (q1211 i (by omega) (by omega)).trans ((fr0 i hi))
    have hR18 : RS LU M3 sz pt ns8 tx9 vb7 e1 e2 W On10 Vx11 := ⟨_, _, _, _, q121⟩
    show am_V G _ _ _ _ _ 70 [(0, .ref 1225), (1, .int mo)] [.int (nI v6), .ref 1213] M3 nx 0 0
    obtain ⟨⟨Kd19, Nm19, Fi19, Ma19, Pa19, Nu19⟩, T19, F19, Va19, hX19⟩ := RS_fr (M1 := M3) hR18 (fun i hi => rfl)
    refine v_callV (rest := []) (As := [.int (nI v6)]) (mc' := 0) (ms' := 0) (am_Dk d_MR_primary (k := 17) rfl) c_MR_235 (Or.inl ⟨_, _, _, _, _, (RS_o1213 (RS_fr (M1 := M3) hR18 (fun i hi => rfl))), cq_ok10⟩) (t_MT_variable G (d := 0) (by omega) hX19.1 (by omega)) (by omega) (by omega) (by omega) (by simp [Value.category]) rfl (fun v20 M21 n22 h23 => ?_) (fun _ _ _ h23 => ?_)
    rotate_left
    · exact absurd h23.1 (by simp)
    obtain ⟨h23, hA24, hf25, ex9⟩ := h23
    cases h23
    replace ex9 := ex9.symm
    subst ex9
    have hR26 := RS_var hX19 (v := v6) q122 hA24 hf25
    obtain ⟨W27, hW28⟩ : ∃ W9, W9 = gu W sz (wV LU (Vx11 v6)) (0, 0, 0) (Vx11 v6) := ⟨_, rfl⟩
    rw [← hW28] at hR26
    have ge29 : gh_eq sz W W27 := by rw [hW28]; exact gu_eq _ _ _ _ _
    have at30 := gu_at W sz (wV LU (Vx11 v6)) (0, 0, 0) (Vx11 v6)
    rw [← hW28] at at30
    have b31 : M21 1225 = some (.inr (12, [.ref 1226, .ref 1227, .ref 1228, .ref 1213, .ref 1220, .ref 1212, .int (nI n), .int (nI ((tok f n a).2.1)), .int (nI ((tok f n a).2.2.1)), .int tk, .int (nI (o + 1)), .long nu, .ref 1229, .int (nI l), .ref 1230, .int (nI tp), .int (-1), .ref 1231, .int (nI vb7), .int kn, .int 0, .ref 1232])) := (hf25 1225 (by omega)).trans (q1210)
    have b32 : M21 1229 = some (.inl (0, 4096, .inl g)) := (hf25 1229 (by omega)).trans (b13)
    have b33 : M21 1230 = some (.inl (1, 4200, .inl S)) := (hf25 1230 (by omega)).trans (b14)
    have b34 : M21 1232 = some (.inl (0, 4096, .inl kc)) := (hf25 1232 (by omega)).trans (b15)
    have hm35 : mb f M21 := mb_fr hm16 (fun i hi => (hf25 i (by omega)).trans (rfl))
    have fr36 : pf_fr M M21 := fun i hi => (hf25 i (by omega)).trans ((fr17 i hi))
    have hR37 : RS LU M21 (sz + 1) pt ns8 tx9 vb7 e1 e2 W27 On10 Vx11 := ⟨_, _, _, _, hR26⟩
    show am_V G _ _ _ _ _ 73 [(0, .ref 1225), (1, .int mo)] [.int (nI sz)] M21 nx 0 0
    refine v_istore_n (L1 := [(2, .int (nI sz)), (0, .ref 1225), (1, .int mo)]) (am_Dk d_MR_primary (k := 18) rfl) (by decide) rfl ?_
    refine v_aload_n (am_Dk d_MR_primary (k := 19) rfl) rfl ?_
    refine v_callV (rest := []) (As := []) (mc' := 0) (ms' := 0) (am_Dk d_MR_primary (k := 20) rfl) c_MR_113 (Or.inl ⟨_, _, _, _, _, b31, cq_ok12⟩) (t_MR_scan G (d := 5) (be := 0) (a := (tok f n a).2.2.1) (by omega) b31 hm35.1 hn hb (by omega) b32 hg) (by omega) (by omega) (by omega) (by simp [Value.category]) rfl (fun v38 M39 n40 h41 => ?_) (fun _ _ _ h41 => ?_)
    rotate_left
    · obtain ⟨_, _, _, _, hx9, _⟩ := h41; cases hx9
    obtain ⟨tk42, nu43, l44, g45, h41, ex9, e46, hs47, hg48⟩ := h41
    replace e46 := e46.symm
    replace ex9 := ex9.symm
    subst e46
    subst ex9
    cases h41
    have k_hs47 := tok_ok f (show (tok f n a).2.2.1 ≤ n from by omega)
    have p_hs47 := tok_pos f (show (tok f n a).2.2.1 ≤ n from by omega)
    have l_hs47 := hs47.2.2.1
    show am_V G _ _ _ _ _ 78 [(2, .int (nI sz)), (0, .ref 1225), (1, .int mo)] [] (am_up (am_up M21 1229 (.inl (0, 4096, .inl g45))) 1225 (.inr (12, [.ref 1226, .ref 1227, .ref 1228, .ref 1213, .ref 1220, .ref 1212, .int (nI n), .int (nI (tok f n ((tok f n a).2.2.1)).2.1), .int (nI (tok f n ((tok f n a).2.2.1)).2.2.1), .int tk42, .int (nI (o + 1)), .long nu43, .ref 1229, .int (nI l44), .ref 1230, .int (nI tp), .int (-1), .ref 1231, .int (nI vb7), .int kn, .int 0, .ref 1232]))) nx 0 0
    refine v_iload_n (am_Dk d_MR_primary (k := 21) rfl) rfl ?_
    have hres : TRes f n lu o mo a sz W27 (tok f n a).2.2.1 0 (sz + 1) sz := Or.inl ⟨_, _, _, _, by rw [Nat.add_sub_cancel_left]; exact q_var pb_0 hk0, var_op hU pb_0 hn hk0 hsc hb q129 at30.1 at30.2.2, by rw [at30.2.1], fun z => absurd rfl z⟩
    exact v_ireturn (am_Dk d_MR_primary (k := 22) rfl) rfl rfl (by omega) (by omega) ⟨rfl, (fun i hi => (am_up_ne (show i ≠ 1225 from by omega)).trans ((am_up_ne (show i ≠ 1229 from by omega)).trans ((fr36 i hi)))), Or.inl ⟨sz, ((tok f n a).2.2.1), S, 0, (sz + 1), pt, ns8, tx9, vb7, e1, e2, W27, On10, Vx11, rfl, (show PS f n LU (am_up (am_up M21 1229 (.inl (0, 4096, .inl g45))) 1225 (.inr (12, [.ref 1226, .ref 1227, .ref 1228, .ref 1213, .ref 1220, .ref 1212, .int (nI n), .int (nI (tok f n ((tok f n a).2.2.1)).2.1), .int (nI (tok f n ((tok f n a).2.2.1)).2.2.1), .int tk42, .int (nI (o + 1)), .long nu43, .ref 1229, .int (nI l44), .ref 1230, .int (nI tp), .int (-1), .ref 1231, .int (nI vb7), .int kn, .int 0, .ref 1232]))) ((tok f n a).2.2.1) (o + 1) tp S 0 (sz + 1) pt ns8 tx9 vb7 e1 e2 W27 On10 Vx11 from ⟨⟨by omega, by omega, by omega, by omega, by omega, by omega, by omega, by omega, by omega, by omega⟩, mb_fr hm35 (fun i hi => (am_up_ne (show i ≠ 1225 from by omega)).trans ((am_up_ne (show i ≠ 1229 from by omega)).trans (rfl))), RS_fr hR37 (fun i hi => (am_up_ne (show i ≠ 1225 from by omega)).trans ((am_up_ne (show i ≠ 1229 from by omega)).trans (rfl))), (am_up_ne (show 1230 ≠ 1225 from by decide)).trans ((am_up_ne (show 1230 ≠ 1229 from by decide)).trans (b33)), ⟨_, (am_up_ne (show 1232 ≠ 1225 from by decide)).trans ((am_up_ne (show 1232 ≠ 1229 from by decide)).trans (b34))⟩, tk42, nu43, l44, g45, kn, am_up_eq _ _ _, hs47, (am_up_ne (show 1229 ≠ 1225 from by decide)).trans (am_up_eq _ _ _), hg48⟩), ⟨by omega, by omega, ge29, by omega, q125, fun _ _ => rfl, by omega, by omega, by omega⟩, hres, trivial⟩⟩
  by_cases hk1 : (tok f n a).1 = 1
  · have htk : tk = 2 := by have := hsc.1.1 (by omega); rw [hk1] at this; exact this
    refine v_tableIn (tgt := 44) (off := 40) (am_Dk d_MR_primary (k := 2) rfl) (by rw [htk]; decide) (by rw [htk]; decide) (by rw [htk]; decide) (by decide) ?_
    have hnu := hsc.2.1 hk1
    have hnR := (tok_num hk1).1
    rw [← hnu] at hnR
    have hpp := p_hsc (by omega)
    refine v_aload_n (am_Dk d_MR_primary (k := 3) rfl) rfl ?_
    refine v_get (am_Dk d_MR_primary (k := 4) rfl) f_MR_81 hr rfl ?_
    refine v_aload_n (am_Dk d_MR_primary (k := 5) rfl) rfl ?_
    refine v_get (am_Dk d_MR_primary (k := 6) rfl) f_MR_174 hr rfl ?_
    obtain ⟨⟨Kd49, Nm49, Fi49, Ma49, Pa49, Nu49⟩, T49, F49, Va49, hX49⟩ := RS_fr (M1 := M) hR (fun i hi => rfl)
    refine v_callV (rest := []) (As := [.long nu]) (mc' := 0) (ms' := 0) (am_Dk d_MR_primary (k := 7) rfl) c_MR_228 (Or.inl ⟨_, _, _, _, _, (RS_o1213 (RS_fr (M1 := M) hR (fun i hi => rfl))), cq_ok10⟩) (t_MT_integer G (d := 0) (by omega) hX49.1 (by omega)) (by omega) (by omega) (by omega) (by simp [Value.category]) rfl (fun v50 M51 n52 h53 => ?_) (fun _ _ _ h53 => ?_)
    rotate_left
    · exact absurd h53.1 (by simp)
    obtain ⟨h53, hA54, hf55, ex9⟩ := h53
    cases h53
    replace ex9 := ex9.symm
    subst ex9
    have hR56 := RS_int hX49 hnR hA54 hf55
    obtain ⟨W57, hW58⟩ : ∃ W9, W9 = gu W sz (0, nu) (0, 0, 0) none := ⟨_, rfl⟩
    rw [← hW58] at hR56
    have ge59 : gh_eq sz W W57 := by rw [hW58]; exact gu_eq _ _ _ _ _
    have at60 := gu_at W sz (0, nu) (0, 0, 0) none
    rw [← hW58] at at60
    have b61 : M51 1225 = some (.inr (12, [.ref 1226, .ref 1227, .ref 1228, .ref 1213, .ref 1220, .ref 1212, .int (nI n), .int (nI ((tok f n a).2.1)), .int (nI ((tok f n a).2.2.1)), .int tk, .int (nI (o + 1)), .long nu, .ref 1229, .int (nI l), .ref 1230, .int (nI tp), .int (-1), .ref 1231, .int (nI vb), .int kn, .int 0, .ref 1232])) := (hf55 1225 (by omega)).trans (hr)
    have b62 : M51 1229 = some (.inl (0, 4096, .inl g)) := (hf55 1229 (by omega)).trans (hw)
    have b63 : M51 1230 = some (.inl (1, 4200, .inl S)) := (hf55 1230 (by omega)).trans (hS)
    have b64 : M51 1232 = some (.inl (0, 4096, .inl kc)) := (hf55 1232 (by omega)).trans (hkc)
    have hm65 : mb f M51 := mb_fr hm (fun i hi => (hf55 i (by omega)).trans (rfl))
    have fr66 : pf_fr M M51 := fun i hi => (hf55 i (by omega)).trans ((fr0 i hi))
    have hR67 : RS LU M51 (sz + 1) pt ns tx vb e1 e2 W57 On Vx := ⟨_, _, _, _, hR56⟩
    show am_V G _ _ _ _ _ 55 [(0, .ref 1225), (1, .int mo)] [.int (nI sz)] M51 nx 0 0
    refine v_istore_n (L1 := [(2, .int (nI sz)), (0, .ref 1225), (1, .int mo)]) (am_Dk d_MR_primary (k := 8) rfl) (by decide) rfl ?_
    refine v_aload_n (am_Dk d_MR_primary (k := 9) rfl) rfl ?_
    refine v_callV (rest := []) (As := []) (mc' := 0) (ms' := 0) (am_Dk d_MR_primary (k := 10) rfl) c_MR_113 (Or.inl ⟨_, _, _, _, _, b61, cq_ok12⟩) (t_MR_scan G (d := 5) (be := 0) (a := (tok f n a).2.2.1) (by omega) b61 hm65.1 hn hb (by omega) b62 hg) (by omega) (by omega) (by omega) (by simp [Value.category]) rfl (fun v68 M69 n70 h71 => ?_) (fun _ _ _ h71 => ?_)
    rotate_left
    · obtain ⟨_, _, _, _, hx9, _⟩ := h71; cases hx9
    obtain ⟨tk72, nu73, l74, g75, h71, ex9, e76, hs77, hg78⟩ := h71
    replace e76 := e76.symm
    replace ex9 := ex9.symm
    subst e76
    subst ex9
    cases h71
    have k_hs77 := tok_ok f (show (tok f n a).2.2.1 ≤ n from by omega)
    have p_hs77 := tok_pos f (show (tok f n a).2.2.1 ≤ n from by omega)
    have l_hs77 := hs77.2.2.1
    show am_V G _ _ _ _ _ 60 [(2, .int (nI sz)), (0, .ref 1225), (1, .int mo)] [] (am_up (am_up M51 1229 (.inl (0, 4096, .inl g75))) 1225 (.inr (12, [.ref 1226, .ref 1227, .ref 1228, .ref 1213, .ref 1220, .ref 1212, .int (nI n), .int (nI (tok f n ((tok f n a).2.2.1)).2.1), .int (nI (tok f n ((tok f n a).2.2.1)).2.2.1), .int tk72, .int (nI (o + 1)), .long nu73, .ref 1229, .int (nI l74), .ref 1230, .int (nI tp), .int (-1), .ref 1231, .int (nI vb), .int kn, .int 0, .ref 1232]))) nx 0 0
    refine v_iload_n (am_Dk d_MR_primary (k := 11) rfl) rfl ?_
    have hTE := q_int (lu := lu) (o := o) (mo := mo) pb_0 hk1
    rw [← hnu, (set_R hnR).1, (set_R hnR).2] at hTE
    have hres : TRes f n lu o mo a sz W57 (tok f n a).2.2.1 0 (sz + 1) sz := Or.inl ⟨_, _, _, _, by rw [Nat.add_sub_cancel_left]; exact hTE, ⟨at60.1, by rw [at60.2.2]; exact (by decide : ¬ (0 : Int32) < 0)⟩, by rw [at60.2.1], fun z => absurd rfl z⟩
    exact v_ireturn (am_Dk d_MR_primary (k := 12) rfl) rfl rfl (by omega) (by omega) ⟨rfl, (fun i hi => (am_up_ne (show i ≠ 1225 from by omega)).trans ((am_up_ne (show i ≠ 1229 from by omega)).trans ((fr66 i hi)))), Or.inl ⟨sz, ((tok f n a).2.2.1), S, 0, (sz + 1), pt, ns, tx, vb, e1, e2, W57, On, Vx, rfl, (show PS f n LU (am_up (am_up M51 1229 (.inl (0, 4096, .inl g75))) 1225 (.inr (12, [.ref 1226, .ref 1227, .ref 1228, .ref 1213, .ref 1220, .ref 1212, .int (nI n), .int (nI (tok f n ((tok f n a).2.2.1)).2.1), .int (nI (tok f n ((tok f n a).2.2.1)).2.2.1), .int tk72, .int (nI (o + 1)), .long nu73, .ref 1229, .int (nI l74), .ref 1230, .int (nI tp), .int (-1), .ref 1231, .int (nI vb), .int kn, .int 0, .ref 1232]))) ((tok f n a).2.2.1) (o + 1) tp S 0 (sz + 1) pt ns tx vb e1 e2 W57 On Vx from ⟨⟨by omega, by omega, by omega, by omega, by omega, by omega, by omega, by omega, by omega, by omega⟩, mb_fr hm65 (fun i hi => (am_up_ne (show i ≠ 1225 from by omega)).trans ((am_up_ne (show i ≠ 1229 from by omega)).trans (rfl))), RS_fr hR67 (fun i hi => (am_up_ne (show i ≠ 1225 from by omega)).trans ((am_up_ne (show i ≠ 1229 from by omega)).trans (rfl))), (am_up_ne (show 1230 ≠ 1225 from by decide)).trans ((am_up_ne (show 1230 ≠ 1229 from by decide)).trans (b63)), ⟨_, (am_up_ne (show 1232 ≠ 1225 from by decide)).trans ((am_up_ne (show 1232 ≠ 1229 from by decide)).trans (b64))⟩, tk72, nu73, l74, g75, kn, am_up_eq _ _ _, hs77, (am_up_ne (show 1229 ≠ 1225 from by decide)).trans (am_up_eq _ _ _), hg78⟩), ⟨by omega, by omega, ge59, Nat.le_refl _, fun _ _ => rfl, fun _ _ => rfl, by omega, by omega, by omega⟩, hres, trivial⟩⟩
  by_cases hk2 : (tok f n a).1 = 2
  · have htk : tk = 3 := by have := hsc.1.1 (by omega); rw [hk2] at this; exact this
    refine v_tableIn (tgt := 125) (off := 121) (am_Dk d_MR_primary (k := 2) rfl) (by rw [htk]; decide) (by rw [htk]; decide) (by rw [htk]; decide) (by decide) ?_
    refine v_aload_n (am_Dk d_MR_primary (k := 48) rfl) rfl ?_
    refine v_iload_n (am_Dk d_MR_primary (k := 49) rfl) rfl ?_
    refine v_callV (rest := []) (As := [.int mo]) (mc' := 0) (ms' := 0) (am_Dk d_MR_primary (k := 50) rfl) c_MR_240 (Or.inl ⟨_, _, _, _, _, hr, cq_ok12⟩) (t_MR_named G (rk := 0) (d := d - 1) (by omega) hb hn hPS ho hk2 h200 IH (by omega)) (by omega) (by omega) (by omega) (by simp [Value.category]) rfl (fun v79 M80 n81 h82 => ?_) (fun x9 M80 n81 h82 => ?_)
    rotate_left
    · have hq9 := h82
      obtain ⟨ex9, _, hT⟩ := h82
      replace ex9 := ex9.symm
      subst ex9
      rcases hT with ⟨_, _, _, _, _, _, _, _, _, _, _, _, _, _, hx9, _⟩ | ⟨wT, hx9, _⟩
      · cases hx9
      · cases hx9
        exact vt_leave (fun q hq => by cases hq) (by omega) (by omega) hq9
    have hq9 := h82
    obtain ⟨ex9, _, hT⟩ := h82
    replace ex9 := ex9.symm
    subst ex9
    rcases hT with ⟨tT, _, _, _, _, _, _, _, _, _, _, _, _, _, hx9, _⟩ | ⟨_, hx9, _⟩
    rotate_left
    · cases hx9
    cases hx9
    show am_V G _ _ _ _ _ 130 [(0, .ref 1225), (1, .int mo)] [.int (nI tT)] M80 nx 0 0
    exact v_ireturn (am_Dk d_MR_primary (k := 51) rfl) rfl rfl (by omega) (by omega) hq9
  by_cases hk3 : (tok f n a).1 = 3
  · have htk : tk = 4 := by have := hsc.1.1 (by omega); rw [hk3] at this; exact this
    refine v_tableIn (tgt := 80) (off := 76) (am_Dk d_MR_primary (k := 2) rfl) (by rw [htk]; decide) (by rw [htk]; decide) (by rw [htk]; decide) (by decide) ?_
    have hpp := p_hsc (by omega)
    refine v_aload_n (am_Dk d_MR_primary (k := 23) rfl) rfl ?_
    refine v_callV (rest := []) (As := []) (mc' := 0) (ms' := 0) (am_Dk d_MR_primary (k := 24) rfl) c_MR_113 (Or.inl ⟨_, _, _, _, _, hr, cq_ok12⟩) (t_MR_scan G (d := 5) (be := 0) (a := (tok f n a).2.2.1) (by omega) hr hm.1 hn hb (by omega) hw hg) (by omega) (by omega) (by omega) (by simp [Value.category]) rfl (fun v83 M84 n85 h86 => ?_) (fun _ _ _ h86 => ?_)
    rotate_left
    · obtain ⟨_, _, _, _, hx9, _⟩ := h86; cases hx9
    obtain ⟨tk87, nu88, l89, g90, h86, ex9, e91, hs92, hg93⟩ := h86
    replace e91 := e91.symm
    replace ex9 := ex9.symm
    subst e91
    subst ex9
    cases h86
    have k_hs92 := tok_ok f (show (tok f n a).2.2.1 ≤ n from by omega)
    have p_hs92 := tok_pos f (show (tok f n a).2.2.1 ≤ n from by omega)
    have l_hs92 := hs92.2.2.1
    show am_V G _ _ _ _ _ 84 [(0, .ref 1225), (1, .int mo)] [] (am_up (am_up M 1229 (.inl (0, 4096, .inl g90))) 1225 (.inr (12, [.ref 1226, .ref 1227, .ref 1228, .ref 1213, .ref 1220, .ref 1212, .int (nI n), .int (nI (tok f n ((tok f n a).2.2.1)).2.1), .int (nI (tok f n ((tok f n a).2.2.1)).2.2.1), .int tk87, .int (nI (o + 1)), .long nu88, .ref 1229, .int (nI l89), .ref 1230, .int (nI tp), .int (-1), .ref 1231, .int (nI vb), .int kn, .int 0, .ref 1232]))) nx 0 0
    refine v_aload_n (am_Dk d_MR_primary (k := 25) rfl) rfl ?_
    refine v_sipush (v := 1200) (am_Dk d_MR_primary (k := 26) rfl) (by decide) ?_
    have m94 : (am_up (am_up M 1229 (.inl (0, 4096, .inl g90))) 1225 (.inr (12, [.ref 1226, .ref 1227, .ref 1228, .ref 1213, .ref 1220, .ref 1212, .int (nI n), .int (nI (tok f n ((tok f n a).2.2.1)).2.1), .int (nI (tok f n ((tok f n a).2.2.1)).2.2.1), .int tk87, .int (nI (o + 1)), .long nu88, .ref 1229, .int (nI l89), .ref 1230, .int (nI tp), .int (-1), .ref 1231, .int (nI vb), .int kn, .int 0, .ref 1232]))) 1225 = some (.inr (12, [.ref 1226, .ref 1227, .ref 1228, .ref 1213, .ref 1220, .ref 1212, .int (nI n), .int (nI (tok f n ((tok f n a).2.2.1)).2.1), .int (nI (tok f n ((tok f n a).2.2.1)).2.2.1), .int tk87, .int (nI (o + 1)), .long nu88, .ref 1229, .int (nI l89), .ref 1230, .int (nI tp), .int (-1), .ref 1231, .int (nI vb), .int kn, .int 0, .ref 1232])) := am_up_eq _ _ _
    have ps95 := (show PS f n LU (am_up (am_up M 1229 (.inl (0, 4096, .inl g90))) 1225 (.inr (12, [.ref 1226, .ref 1227, .ref 1228, .ref 1213, .ref 1220, .ref 1212, .int (nI n), .int (nI (tok f n ((tok f n a).2.2.1)).2.1), .int (nI (tok f n ((tok f n a).2.2.1)).2.2.1), .int tk87, .int (nI (o + 1)), .long nu88, .ref 1229, .int (nI l89), .ref 1230, .int (nI tp), .int (-1), .ref 1231, .int (nI vb), .int kn, .int 0, .ref 1232]))) ((tok f n a).2.2.1) (o + 1) tp S 0 sz pt ns tx vb e1 e2 W On Vx from ⟨⟨by omega, by omega, by omega, by omega, by omega, by omega, by omega, by omega, by omega, by omega⟩, mb_fr hm (fun i hi => (am_up_ne (show i ≠ 1225 from by omega)).trans ((am_up_ne (show i ≠ 1229 from by omega)).trans (rfl))), RS_fr hR (fun i hi => (am_up_ne (show i ≠ 1225 from by omega)).trans ((am_up_ne (show i ≠ 1229 from by omega)).trans (rfl))), (am_up_ne (show 1230 ≠ 1225 from by decide)).trans ((am_up_ne (show 1230 ≠ 1229 from by decide)).trans (hS)), ⟨_, (am_up_ne (show 1232 ≠ 1225 from by decide)).trans ((am_up_ne (show 1232 ≠ 1229 from by decide)).trans (hkc))⟩, tk87, nu88, l89, g90, kn, am_up_eq _ _ _, hs92, (am_up_ne (show 1229 ≠ 1225 from by decide)).trans (am_up_eq _ _ _), hg93⟩)
    refine v_callV (rest := []) (As := [.int 1200]) (mc' := 0) (ms' := 0) (am_Dk d_MR_primary (k := 27) rfl) c_MR_119 (Or.inl ⟨_, _, _, _, _, m94, cq_ok12⟩) (IH _ _ 1200 _ _ _ _ _ _ _ _ _ _ _ _ _ _ ps95 (by decide)) (by omega) (by omega) (by omega) (by simp [Value.category]) rfl (fun v96 M97 n98 h99 => ?_) (fun x9 M97 n98 h99 => ?_)
    rotate_left
    · obtain ⟨ex9, pfT, hT⟩ := h99
      replace ex9 := ex9.symm
      subst ex9
      rcases hT with ⟨_, _, _, _, _, _, _, _, _, _, _, _, _, _, hx9, _⟩ | ⟨wT, hx9, pxT, bT⟩
      · cases hx9
      · cases hx9
        exact vt_leave (fun q hq => by cases hq) (by omega) (by omega) ⟨rfl, (fun i hi => (pfT i hi).trans ((am_up_ne (show i ≠ 1225 from by omega)).trans ((am_up_ne (show i ≠ 1229 from by omega)).trans ((fr0 i hi))))), Or.inr ⟨wT, rfl, pxT, q_parB hn pb_0 hk3 (bT.elim (fun z => Or.inl ⟨by omega, z.2⟩) (fun z => Or.inr ⟨z.1, z.2⟩))⟩⟩
    obtain ⟨ex9, pf114, hT⟩ := h99
    replace ex9 := ex9.symm
    subst ex9
    rcases hT with ⟨t100, a101, S102, rk103, sz104, pt105, ns106, tx107, vb108, e1109, e2110, W111, On112, Vx113, hx9, psx, pe115, tr116, ee117⟩ | ⟨_, hx9, _⟩
    rotate_left
    · cases hx9
    cases hx9
    obtain ⟨pb123, hm124, hR125, hS126, ⟨kc127, hk128⟩, tk118, nu119, l120, g121, kn122, hr129, hs130, hw131, hg132⟩ := psx
    obtain ⟨pb123_0, pb123_1, pb123_2, pb123_3, pb123_4, pb123_5, pb123_6, pb123_7, pb123_8, pb123_9⟩ := pb123
    obtain ⟨pe115_0, pe115_1, pe115_2, pe115_3, pe115_4, pe115_5, pe115_6, pe115_7, pe115_8⟩ := pe115
    replace hr129 : M97 1225 = some (.inr (12, [.ref 1226, .ref 1227, .ref 1228, .ref 1213, .ref 1220, .ref 1212, .int (nI n), .int (nI ((tok f n a101).2.1)), .int (nI ((tok f n a101).2.2.1)), .int tk118, .int (nI (o + 1)), .long nu119, .ref 1229, .int (nI l120), .ref 1230, .int (nI tp), .int (-1), .ref 1231, .int (nI vb108), .int kn122, .int rk103, .ref 1232])) := hr129
    have k_hs130 := tok_ok f pb123_0
    have p_hs130 := tok_pos f pb123_0
    have l_hs130 := hs130.2.2.1
    have fr133 : pf_fr M M97 := fun i hi => (pf114 i hi).trans ((am_up_ne (show i ≠ 1225 from by omega)).trans ((am_up_ne (show i ≠ 1229 from by omega)).trans ((fr0 i hi))))
    show am_V G _ _ _ _ _ 91 [(0, .ref 1225), (1, .int mo)] [.int (nI t100)] M97 nx 0 0
    refine v_istore_n (L1 := [(2, .int (nI t100)), (0, .ref 1225), (1, .int mo)]) (am_Dk d_MR_primary (k := 28) rfl) (by decide) rfl ?_
    refine v_aload_n (am_Dk d_MR_primary (k := 29) rfl) rfl ?_
    refine v_iconst (v := 0) (am_Dk d_MR_primary (k := 30) rfl) (by decide) ?_
    refine v_put (am_Dk d_MR_primary (k := 31) rfl) f_MR_204 hr129 (Nat.le_of_ble_eq_true rfl) rfl rfl ?_
    refine v_aload_n (am_Dk d_MR_primary (k := 32) rfl) rfl ?_
    have m134 : (am_up M97 1225 (.inr (12, [.ref 1226, .ref 1227, .ref 1228, .ref 1213, .ref 1220, .ref 1212, .int (nI n), .int (nI ((tok f n a101).2.1)), .int (nI ((tok f n a101).2.2.1)), .int tk118, .int (nI (o + 1)), .long nu119, .ref 1229, .int (nI l120), .ref 1230, .int (nI tp), .int (-1), .ref 1231, .int (nI vb108), .int kn122, .int 0, .ref 1232]))) 1225 = some (.inr (12, [.ref 1226, .ref 1227, .ref 1228, .ref 1213, .ref 1220, .ref 1212, .int (nI n), .int (nI ((tok f n a101).2.1)), .int (nI ((tok f n a101).2.2.1)), .int tk118, .int (nI (o + 1)), .long nu119, .ref 1229, .int (nI l120), .ref 1230, .int (nI tp), .int (-1), .ref 1231, .int (nI vb108), .int kn122, .int 0, .ref 1232])) := am_up_eq _ _ _
    refine v_get (am_Dk d_MR_primary (k := 33) rfl) f_MR_123 m134 rfl ?_
    refine v_iconst (v := 5) (am_Dk d_MR_primary (k := 34) rfl) (by decide) ?_
    refine v_icmp_eq (tgt := 114) (am_Dk d_MR_primary (k := 35) rfl) (by decide) (fun c135 => ?_) (fun c135 => ?_)
    · have hkc4 : (tok f n a101).1 = 4 := (tkR_eq hs130.1 (by omega)).2.1.mp c135
      refine v_aload_n (am_Dk d_MR_primary (k := 41) rfl) rfl ?_
      have m136 : (am_up M97 1225 (.inr (12, [.ref 1226, .ref 1227, .ref 1228, .ref 1213, .ref 1220, .ref 1212, .int (nI n), .int (nI ((tok f n a101).2.1)), .int (nI ((tok f n a101).2.2.1)), .int tk118, .int (nI (o + 1)), .long nu119, .ref 1229, .int (nI l120), .ref 1230, .int (nI tp), .int (-1), .ref 1231, .int (nI vb108), .int kn122, .int 0, .ref 1232]))) 1212 = some (.inl (0, 4096, .inl f)) := (am_up_ne (show 1212 ≠ 1225 from by decide)).trans (hm124.1)
      have m137 : (am_up M97 1225 (.inr (12, [.ref 1226, .ref 1227, .ref 1228, .ref 1213, .ref 1220, .ref 1212, .int (nI n), .int (nI ((tok f n a101).2.1)), .int (nI ((tok f n a101).2.2.1)), .int tk118, .int (nI (o + 1)), .long nu119, .ref 1229, .int (nI l120), .ref 1230, .int (nI tp), .int (-1), .ref 1231, .int (nI vb108), .int kn122, .int 0, .ref 1232]))) 1229 = some (.inl (0, 4096, .inl g121)) := (am_up_ne (show 1229 ≠ 1225 from by decide)).trans (hw131)
      refine v_callV (rest := []) (As := []) (mc' := 0) (ms' := 0) (am_Dk d_MR_primary (k := 42) rfl) c_MR_113 (Or.inl ⟨_, _, _, _, _, m134, cq_ok12⟩) (t_MR_scan G (d := 5) (be := 0) (a := (tok f n a101).2.2.1) (by omega) m134 m136 hn hb (by omega) m137 hg132) (by omega) (by omega) (by omega) (by simp [Value.category]) rfl (fun v138 M139 n140 h141 => ?_) (fun _ _ _ h141 => ?_)
      rotate_left
      · obtain ⟨_, _, _, _, hx9, _⟩ := h141; cases hx9
      obtain ⟨tk142, nu143, l144, g145, h141, ex9, e146, hs147, hg148⟩ := h141
      replace e146 := e146.symm
      replace ex9 := ex9.symm
      subst e146
      subst ex9
      cases h141
      rw [am_uu1 (a := 1225)]
      have k_hs147 := tok_ok f (show (tok f n a101).2.2.1 ≤ n from by omega)
      have p_hs147 := tok_pos f (show (tok f n a101).2.2.1 ≤ n from by omega)
      have l_hs147 := hs147.2.2.1
      show am_V G _ _ _ _ _ 118 [(2, .int (nI t100)), (0, .ref 1225), (1, .int mo)] [] (am_up (am_up M97 1229 (.inl (0, 4096, .inl g145))) 1225 (.inr (12, [.ref 1226, .ref 1227, .ref 1228, .ref 1213, .ref 1220, .ref 1212, .int (nI n), .int (nI (tok f n ((tok f n a101).2.2.1)).2.1), .int (nI (tok f n ((tok f n a101).2.2.1)).2.2.1), .int tk142, .int (nI (o + 1)), .long nu143, .ref 1229, .int (nI l144), .ref 1230, .int (nI tp), .int (-1), .ref 1231, .int (nI vb108), .int kn122, .int 0, .ref 1232]))) nx 0 0
      refine v_iload_n (am_Dk d_MR_primary (k := 43) rfl) rfl ?_
      have hpq := tok_pos f (show a101 ≤ n from by omega) (by omega)
      have hres : TRes f n lu o mo a sz W111 (tok f n a101).2.2.1 0 sz104 t100 := by
        rcases tr116 with ⟨wU, roU, L8, R8, hTU, hOpU, hroU, hchU⟩ | ⟨hk10, _⟩
        · exact Or.inl ⟨wU, roU, L8, R8, q_par pb_0 hk3 ee117.1 hTU ee117.2 hkc4, hOpU, hroU, hchU⟩
        · omega
      exact v_ireturn (am_Dk d_MR_primary (k := 44) rfl) rfl rfl (by omega) (by omega) ⟨rfl, (fun i hi => (am_up_ne (show i ≠ 1225 from by omega)).trans ((am_up_ne (show i ≠ 1229 from by omega)).trans ((fr133 i hi)))), Or.inl ⟨t100, ((tok f n a101).2.2.1), S102, 0, sz104, pt105, ns106, tx107, vb108, e1109, e2110, W111, On112, Vx113, rfl, (show PS f n LU (am_up (am_up M97 1229 (.inl (0, 4096, .inl g145))) 1225 (.inr (12, [.ref 1226, .ref 1227, .ref 1228, .ref 1213, .ref 1220, .ref 1212, .int (nI n), .int (nI (tok f n ((tok f n a101).2.2.1)).2.1), .int (nI (tok f n ((tok f n a101).2.2.1)).2.2.1), .int tk142, .int (nI (o + 1)), .long nu143, .ref 1229, .int (nI l144), .ref 1230, .int (nI tp), .int (-1), .ref 1231, .int (nI vb108), .int kn122, .int 0, .ref 1232]))) ((tok f n a101).2.2.1) (o + 1) tp S102 0 sz104 pt105 ns106 tx107 vb108 e1109 e2110 W111 On112 Vx113 from ⟨⟨by omega, by omega, by omega, by omega, by omega, by omega, by omega, by omega, by omega, by omega⟩, mb_fr hm124 (fun i hi => (am_up_ne (show i ≠ 1225 from by omega)).trans ((am_up_ne (show i ≠ 1229 from by omega)).trans (rfl))), RS_fr hR125 (fun i hi => (am_up_ne (show i ≠ 1225 from by omega)).trans ((am_up_ne (show i ≠ 1229 from by omega)).trans (rfl))), (am_up_ne (show 1230 ≠ 1225 from by decide)).trans ((am_up_ne (show 1230 ≠ 1229 from by decide)).trans (hS126)), ⟨_, (am_up_ne (show 1232 ≠ 1225 from by decide)).trans ((am_up_ne (show 1232 ≠ 1229 from by decide)).trans (hk128))⟩, tk142, nu143, l144, g145, kn122, am_up_eq _ _ _, hs147, (am_up_ne (show 1229 ≠ 1225 from by decide)).trans (am_up_eq _ _ _), hg148⟩), ⟨by omega, by omega, pe115_2, by omega, pe115_4, pe115_5, by omega, by omega, by omega⟩, hres, trivial⟩⟩
    · have hkc4 : ¬ (tok f n a101).1 = 4 := fun z => c135 ((tkR_eq hs130.1 (by omega)).2.1.mpr z)
      refine v_aload_n (am_Dk d_MR_primary (k := 36) rfl) rfl ?_
      refine v_aload_n (am_Dk d_MR_primary (k := 37) rfl) rfl ?_
      refine v_get (am_Dk d_MR_primary (k := 38) rfl) f_MR_116 m134 rfl ?_
      refine v_callV (rest := []) (As := [.int (nI ((tok f n a101).2.1))]) (mc' := 0) (ms' := 0) (am_Dk d_MR_primary (k := 39) rfl) c_MR_126 (Or.inl ⟨_, _, _, _, _, m134, cq_ok12⟩) (t_MR_bad G (d := 0) (by omega) m134) (by omega) (by omega) (by omega) (by simp [Value.category]) rfl (fun v149 M150 n151 h152 => ?_) (fun _ _ _ h152 => ?_)
      rotate_left
      · exact absurd h152.1 (by simp)
      obtain ⟨h152, e153, e154⟩ := h152
      replace e153 := e153.symm
      replace e154 := e154.symm
      subst e153
      subst e154
      cases h152
      rw [am_uu0 (a := 1225)]
      show am_V G _ _ _ _ _ 113 [(2, .int (nI t100)), (0, .ref 1225), (1, .int mo)] [.ref 1228] (am_up M97 1225 (.inr (12, [.ref 1226, .ref 1227, .ref 1228, .ref 1213, .ref 1220, .ref 1212, .int (nI n), .int (nI ((tok f n a101).2.1)), .int (nI ((tok f n a101).2.2.1)), .int tk118, .int (nI (o + 1)), .long nu119, .ref 1229, .int (nI l120), .ref 1230, .int (nI tp), .int (nI ((tok f n a101).2.1)), .ref 1231, .int (nI vb108), .int kn122, .int 0, .ref 1232]))) nx 0 0
      refine v_athrow (am_Dk d_MR_primary (k := 40) rfl) ?_
      have hB9 : TBad f n lu o mo a (tok f n a101).2.1 := by
        rcases tr116 with ⟨wU, roU, L8, R8, hTU, hOpU, hroU, hchU⟩ | ⟨hk10, hTB⟩
        · exact q_parN hn pb_0 hk3 ee117.1 hTU ee117.2 hkc4
        · exact q_parB hn pb_0 hk3 (Or.inr ⟨ee117.1, hTB⟩)
      exact vt_leave (fun q hq => by cases hq) (by omega) (by omega) ⟨rfl, (fun i hi => (am_up_ne (show i ≠ 1225 from by omega)).trans ((fr133 i hi))), Or.inr ⟨(tok f n a101).2.1, rfl, (show PX f n (am_up M97 1225 (.inr (12, [.ref 1226, .ref 1227, .ref 1228, .ref 1213, .ref 1220, .ref 1212, .int (nI n), .int (nI ((tok f n a101).2.1)), .int (nI ((tok f n a101).2.2.1)), .int tk118, .int (nI (o + 1)), .long nu119, .ref 1229, .int (nI l120), .ref 1230, .int (nI tp), .int (nI ((tok f n a101).2.1)), .ref 1231, .int (nI vb108), .int kn122, .int 0, .ref 1232]))) ((tok f n a101).2.1) from ⟨by omega, RS_rx (mb_fr hm124 (fun i hi => (am_up_ne (show i ≠ 1225 from by omega)).trans (rfl))) (RS_fr hR125 (fun i hi => (am_up_ne (show i ≠ 1225 from by omega)).trans (rfl))) ((am_up_ne (show 1229 ≠ 1225 from by decide)).trans (hw131)) hg132 ((am_up_ne (show 1230 ≠ 1225 from by decide)).trans (hS126)) ⟨_, (am_up_ne (show 1232 ≠ 1225 from by decide)).trans (hk128)⟩, _, _, _, _, _, _, _, _, _, _, am_up_eq _ _ _⟩), hB9⟩⟩
  by_cases hk4 : (tok f n a).1 = 4
  · have htk : tk = 5 := by have := hsc.1.1 (by omega); rw [hk4] at this; exact this
    refine v_tableIn (tgt := 131) (off := 127) (am_Dk d_MR_primary (k := 2) rfl) (by rw [htk]; decide) (by rw [htk]; decide) (by rw [htk]; decide) (by decide) ?_
    refine v_aload_n (am_Dk d_MR_primary (k := 52) rfl) rfl ?_
    refine v_aload_n (am_Dk d_MR_primary (k := 53) rfl) rfl ?_
    refine v_get (am_Dk d_MR_primary (k := 54) rfl) f_MR_116 hr rfl ?_
    refine v_callV (rest := []) (As := [.int (nI ((tok f n a).2.1))]) (mc' := 0) (ms' := 0) (am_Dk d_MR_primary (k := 55) rfl) c_MR_126 (Or.inl ⟨_, _, _, _, _, hr, cq_ok12⟩) (t_MR_bad G (d := 0) (by omega) hr) (by omega) (by omega) (by omega) (by simp [Value.category]) rfl (fun v155 M156 n157 h158 => ?_) (fun _ _ _ h158 => ?_)
    rotate_left
    · exact absurd h158.1 (by simp)
    obtain ⟨h158, e159, e160⟩ := h158
    replace e159 := e159.symm
    replace e160 := e160.symm
    subst e159
    subst e160
    cases h158
    show am_V G _ _ _ _ _ 139 [(0, .ref 1225), (1, .int mo)] [.ref 1228] (am_up M 1225 (.inr (12, [.ref 1226, .ref 1227, .ref 1228, .ref 1213, .ref 1220, .ref 1212, .int (nI n), .int (nI ((tok f n a).2.1)), .int (nI ((tok f n a).2.2.1)), .int tk, .int (nI (o + 1)), .long nu, .ref 1229, .int (nI l), .ref 1230, .int (nI tp), .int (nI ((tok f n a).2.1)), .ref 1231, .int (nI vb), .int kn, .int 0, .ref 1232]))) nx 0 0
    refine v_athrow (am_Dk d_MR_primary (k := 56) rfl) ?_
    exact vt_leave (fun q hq => by cases hq) (by omega) (by omega) ⟨rfl, (fun i hi => (am_up_ne (show i ≠ 1225 from by omega)).trans ((fr0 i hi))), Or.inr ⟨(tok f n a).2.1, rfl, (show PX f n (am_up M 1225 (.inr (12, [.ref 1226, .ref 1227, .ref 1228, .ref 1213, .ref 1220, .ref 1212, .int (nI n), .int (nI ((tok f n a).2.1)), .int (nI ((tok f n a).2.2.1)), .int tk, .int (nI (o + 1)), .long nu, .ref 1229, .int (nI l), .ref 1230, .int (nI tp), .int (nI ((tok f n a).2.1)), .ref 1231, .int (nI vb), .int kn, .int 0, .ref 1232]))) ((tok f n a).2.1) from ⟨by omega, RS_rx (mb_fr hm (fun i hi => (am_up_ne (show i ≠ 1225 from by omega)).trans (rfl))) (RS_fr hR (fun i hi => (am_up_ne (show i ≠ 1225 from by omega)).trans (rfl))) ((am_up_ne (show 1229 ≠ 1225 from by decide)).trans (hw)) hg ((am_up_ne (show 1230 ≠ 1225 from by decide)).trans (hS)) ⟨_, (am_up_ne (show 1232 ≠ 1225 from by decide)).trans (hkc)⟩, _, _, _, _, _, _, _, _, _, _, am_up_eq _ _ _⟩), (q_no hn pb_0 (by omega))⟩⟩
  by_cases hk5 : (tok f n a).1 = 5
  · have htk : tk = 6 := by have := hsc.1.1 (by omega); rw [hk5] at this; exact this
    refine v_tableIn (tgt := 120) (off := 116) (am_Dk d_MR_primary (k := 2) rfl) (by rw [htk]; decide) (by rw [htk]; decide) (by rw [htk]; decide) (by decide) ?_
    refine v_aload_n (am_Dk d_MR_primary (k := 45) rfl) rfl ?_
    refine v_callV (rest := []) (As := []) (mc' := 0) (ms' := 0) (am_Dk d_MR_primary (k := 46) rfl) c_MR_237 (Or.inl ⟨_, _, _, _, _, hr, cq_ok12⟩) (t_MR_list G (mo := mo) (d := d - 1) (by omega) hb hn hPS ho hk5 IH (by omega)) (by omega) (by omega) (by omega) (by simp [Value.category]) rfl (fun v161 M162 n163 h164 => ?_) (fun x9 M162 n163 h164 => ?_)
    rotate_left
    · have hq9 := h164
      obtain ⟨ex9, _, hT⟩ := h164
      replace ex9 := ex9.symm
      subst ex9
      rcases hT with ⟨_, _, _, _, _, _, _, _, _, _, _, _, _, _, hx9, _⟩ | ⟨wT, hx9, _⟩
      · cases hx9
      · cases hx9
        exact vt_leave (fun q hq => by cases hq) (by omega) (by omega) hq9
    have hq9 := h164
    obtain ⟨ex9, _, hT⟩ := h164
    replace ex9 := ex9.symm
    subst ex9
    rcases hT with ⟨tT, _, _, _, _, _, _, _, _, _, _, _, _, _, hx9, _⟩ | ⟨_, hx9, _⟩
    rotate_left
    · cases hx9
    cases hx9
    show am_V G _ _ _ _ _ 124 [(0, .ref 1225), (1, .int mo)] [.int (nI tT)] M162 nx 0 0
    exact v_ireturn (am_Dk d_MR_primary (k := 47) rfl) rfl rfl (by omega) (by omega) hq9
  refine v_tableOut (tgt := 131) (am_Dk d_MR_primary (k := 2) rfl) (tkR_out hsc.1 k_hsc.1 hk0 hk1 hk2 hk3 hk4 hk5) (by decide) ?_
  refine v_aload_n (am_Dk d_MR_primary (k := 52) rfl) rfl ?_
  refine v_aload_n (am_Dk d_MR_primary (k := 53) rfl) rfl ?_
  refine v_get (am_Dk d_MR_primary (k := 54) rfl) f_MR_116 hr rfl ?_
  refine v_callV (rest := []) (As := [.int (nI ((tok f n a).2.1))]) (mc' := 0) (ms' := 0) (am_Dk d_MR_primary (k := 55) rfl) c_MR_126 (Or.inl ⟨_, _, _, _, _, hr, cq_ok12⟩) (t_MR_bad G (d := 0) (by omega) hr) (by omega) (by omega) (by omega) (by simp [Value.category]) rfl (fun v165 M166 n167 h168 => ?_) (fun _ _ _ h168 => ?_)
  rotate_left
  · exact absurd h168.1 (by simp)
  obtain ⟨h168, e169, e170⟩ := h168
  replace e169 := e169.symm
  replace e170 := e170.symm
  subst e169
  subst e170
  cases h168
  show am_V G _ _ _ _ _ 139 [(0, .ref 1225), (1, .int mo)] [.ref 1228] (am_up M 1225 (.inr (12, [.ref 1226, .ref 1227, .ref 1228, .ref 1213, .ref 1220, .ref 1212, .int (nI n), .int (nI ((tok f n a).2.1)), .int (nI ((tok f n a).2.2.1)), .int tk, .int (nI (o + 1)), .long nu, .ref 1229, .int (nI l), .ref 1230, .int (nI tp), .int (nI ((tok f n a).2.1)), .ref 1231, .int (nI vb), .int kn, .int 0, .ref 1232]))) nx 0 0
  refine v_athrow (am_Dk d_MR_primary (k := 56) rfl) ?_
  exact vt_leave (fun q hq => by cases hq) (by omega) (by omega) ⟨rfl, (fun i hi => (am_up_ne (show i ≠ 1225 from by omega)).trans ((fr0 i hi))), Or.inr ⟨(tok f n a).2.1, rfl, (show PX f n (am_up M 1225 (.inr (12, [.ref 1226, .ref 1227, .ref 1228, .ref 1213, .ref 1220, .ref 1212, .int (nI n), .int (nI ((tok f n a).2.1)), .int (nI ((tok f n a).2.2.1)), .int tk, .int (nI (o + 1)), .long nu, .ref 1229, .int (nI l), .ref 1230, .int (nI tp), .int (nI ((tok f n a).2.1)), .ref 1231, .int (nI vb), .int kn, .int 0, .ref 1232]))) ((tok f n a).2.1) from ⟨by omega, RS_rx (mb_fr hm (fun i hi => (am_up_ne (show i ≠ 1225 from by omega)).trans (rfl))) (RS_fr hR (fun i hi => (am_up_ne (show i ≠ 1225 from by omega)).trans (rfl))) ((am_up_ne (show 1229 ≠ 1225 from by decide)).trans (hw)) hg ((am_up_ne (show 1230 ≠ 1225 from by decide)).trans (hS)) ⟨_, (am_up_ne (show 1232 ≠ 1225 from by decide)).trans (hkc)⟩, _, _, _, _, _, _, _, _, _, _, am_up_eq _ _ _⟩), (q_no hn pb_0 (by omega))⟩⟩
