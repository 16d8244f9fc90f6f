/-! THE REFERENCE'S SCAN (mine; rows laid by the walker) -/
def tokMk (f : Nat → Int32) (n p : Nat) : Nat × Nat × Nat × Int64 × Nat :=
  if (tb f n p = 91 ∧ tb f n (p + 1) = 93) then ⟨2, p, p + 2, 0, spl f n p (p + 2)⟩
  else if (tb f n p = 33 ∨ tb f n p = 59) then ⟨2, p, p + 1, 0, spl f n p (p + 1)⟩
  else if tb f n p = -1 then ⟨10, p, p, 0, 0⟩
  else ⟨mkK (tb f n p) - 26, p, p + 1, 0, if mkK (tb f n p) = 33 then 1 else 0⟩
theorem tf_i {f : Nat → Int32} (hb : tbB f) {n p : Nat} (hp : p < n) {k : Int} (hk : 0 ≤ k ∧ k ≤ 127) : (f p).toInt = k ↔ (tb f n p).toInt = k := by
  rcases lk_tb hb n p with ⟨h1, _⟩ | ⟨h1, h2, _⟩
  · rw [← h1, lk, if_pos hp]
  · rw [lk, if_pos hp] at h1
    omega
theorem tb_lt {f : Nat → Int32} {n p : Nat} (hb : tbB f) (hp : p < n) : 0 ≤ (tb f n p).toInt := by
  rcases lk_tb hb n p with ⟨h1, h2⟩ | ⟨h1, h2, _⟩
  · exact (h2 hp).1
  · omega
theorem tb_m1 {f : Nat → Int32} {n p : Nat} (hb : tbB f) (hp : p < n) : ¬ tb f n p = -1 := by
  intro z
  have := tb_lt hb hp
  rw [z] at this
  exact absurd this (by decide)
theorem scT_2 {f : Nat → Int32} {p e nm l : Nat} {v nu : Int64} {g : Nat → Int32} (hl : l ≤ 4096) (h1 : l ≤ e - p) (h2 : spg l g = nm) : scT f (2, p, e, v, nm) 3 nu l g := ⟨⟨fun _ => rfl, fun z => absurd (show 2 < 11 by decide) z⟩, fun z => absurd (show 2 = 1 from z) (by decide), hl, fun z => absurd (show 2 = 0 from z) (by decide), fun _ => ⟨h1, h2⟩⟩
theorem scT_0 {f : Nat → Int32} {p e nm l : Nat} {v nu : Int64} {g : Nat → Int32} (hl : l ≤ 4096) (h1 : l + p = e) (h2 : ∀ i, i < l → g i = f (p + i)) : scT f (0, p, e, v, nm) 1 nu l g := ⟨⟨fun _ => rfl, fun z => absurd (show 0 < 11 by decide) z⟩, fun z => absurd (show 0 = 1 from z) (by decide), hl, fun _ => ⟨h1, h2⟩, fun z => absurd (show 0 = 2 from z) (by decide)⟩
theorem scT_1 {f : Nat → Int32} {p e nm l : Nat} {v : Int64} {g : Nat → Int32} {tk : Int32} (ht : tk = 2) (hl : l ≤ 4096) : scT f (1, p, e, v, nm) tk v l g := ⟨⟨fun _ => ht, fun z => absurd (show 1 < 11 by decide) z⟩, fun _ => rfl, hl, fun z => absurd (show 1 = 0 from z) (by decide), fun z => absurd (show 1 = 2 from z) (by decide)⟩
set_option maxRecDepth 20000 in
theorem t_MR_sign (G : am_G) {d nx : Nat} (hd : 1 ≤ d) {M : am_M} {n : Nat} {at9 be tk op le tp pl vd kn rk : Int32} {nu : Int64} {p : Nat} (hr : M 1225 = some (.inr (12, [.ref 1226, .ref 1227, .ref 1228, .ref 1213, .ref 1220, .ref 1212, .int (nI n), .int (nI p), .int be, .int tk, .int op, .long nu, .ref 1229, .int 0, .ref 1230, .int tp, .int pl, .ref 1231, .int vd, .int kn, .int rk, .ref 1232]))) {f : Nat → Int32} (h2 : M 1212 = some (.inl (0, 4096, .inl f))) (hn : n ≤ 4096) (hb : tbB f) (hp : p < n) {g0 : Nat → Int32} (hw : M 1229 = some (.inl (0, 4096, .inl g0))) (hg0 : tbB g0) : am_Tr G m_MR_sign d 0 0 [.ref 1225, .int (f p)] M nx (fun r M1 nx1 => ∃ tk1 l g, r = .inl none ∧ nx1 = nx ∧ M1 = am_up (am_up M 1229 (.inl (0, 4096, .inl g))) 1225 (.inr (12, [.ref 1226, .ref 1227, .ref 1228, .ref 1213, .ref 1220, .ref 1212, .int (nI n), .int (nI (tokMk f n p).2.1), .int (nI (tokMk f n p).2.2.1), .int tk1, .int op, .long nu, .ref 1229, .int (nI l), .ref 1230, .int tp, .int pl, .ref 1231, .int vd, .int kn, .int rk, .ref 1232])) ∧ scT f (tokMk f n p) tk1 nu l g ∧ tbB g) := by
  refine am_TrOf (by decide) (Nat.le_of_ble_eq_true rfl) ?_
  show am_V G _ _ _ _ _ 0 [(0, .ref 1225), (1, .int (f p))] [] M nx 0 0
  have hlf : lk f n p = f p := by rw [lk, if_pos hp]
  refine v_iload_n (am_Dk d_MR_sign (k := 0) rfl) rfl ?_
  by_cases e1 : (f p).toInt = 33
  · refine v_lookup (tgt := 92) (am_Dk d_MR_sign (k := 1) rfl) (by decide) (by rw [e1]) (by decide) ?_
    refine v_aload_n (am_Dk d_MR_sign (k := 2) rfl) rfl ?_
    refine v_iload_n (am_Dk d_MR_sign (k := 3) rfl) rfl ?_
    refine v_callV (rest := []) (As := [.int (f p)]) (mc' := 0) (ms' := 0) (am_Dk d_MR_sign (k := 4) rfl) c_MR_154 (Or.inl ⟨_, _, _, _, _, hr, cq_ok12⟩) (t_MR_letter G (d := 0) (le := 0) (l := 0) (by omega) hr hw (by omega)) (by omega) (by omega) (by omega) (by simp [Value.category]) rfl (fun v2 M3 n4 h5 => ?_) (fun _ _ _ h5 => ?_)
    rotate_left
    · exact absurd h5.1 (by simp)
    obtain ⟨h5, e6, e7⟩ := h5
    replace e6 := e6.symm
    replace e7 := e7.symm
    subst e6
    subst e7
    cases h5
    rw [lt_nar (hb _)]
    show am_V G _ _ _ _ _ 97 [(0, .ref 1225), (1, .int (f p))] [] (am_up (am_up M 1229 (.inl (0, 4096, .inl (upd g0 0 (f p))))) 1225 (.inr (12, [.ref 1226, .ref 1227, .ref 1228, .ref 1213, .ref 1220, .ref 1212, .int (nI n), .int (nI p), .int be, .int tk, .int op, .long nu, .ref 1229, .int (nI (1)), .ref 1230, .int tp, .int pl, .ref 1231, .int vd, .int kn, .int rk, .ref 1232]))) nx 0 0
    refine v_aload_n (am_Dk d_MR_sign (k := 5) rfl) rfl ?_
    refine v_iconst (v := 3) (am_Dk d_MR_sign (k := 6) rfl) (by decide) ?_
    refine v_aload_n (am_Dk d_MR_sign (k := 7) rfl) rfl ?_
    have m8 : (am_up (am_up M 1229 (.inl (0, 4096, .inl (upd g0 0 (f p))))) 1225 (.inr (12, [.ref 1226, .ref 1227, .ref 1228, .ref 1213, .ref 1220, .ref 1212, .int (nI n), .int (nI p), .int be, .int tk, .int op, .long nu, .ref 1229, .int (nI (1)), .ref 1230, .int tp, .int pl, .ref 1231, .int vd, .int kn, .int rk, .ref 1232]))) 1225 = some (.inr (12, [.ref 1226, .ref 1227, .ref 1228, .ref 1213, .ref 1220, .ref 1212, .int (nI n), .int (nI p), .int be, .int tk, .int op, .long nu, .ref 1229, .int (nI (1)), .ref 1230, .int tp, .int pl, .ref 1231, .int vd, .int kn, .int rk, .ref 1232])) := am_up_eq _ _ _
    refine v_get (am_Dk d_MR_sign (k := 8) rfl) f_MR_116 m8 rfl ?_
    refine v_iconst (v := 1) (am_Dk d_MR_sign (k := 9) rfl) (by decide) ?_
    refine v_iadd (am_Dk d_MR_sign (k := 10) rfl) ?_
    rw [nI_1]
    refine v_callV (rest := []) (As := [.int 3, .int (nI (p + 1))]) (mc' := 0) (ms' := 0) (am_Dk d_MR_sign (k := 11) rfl) c_MR_158 (Or.inl ⟨_, _, _, _, _, m8, cq_ok12⟩) (t_MR_take G (d := 0) (by omega) m8) (by omega) (by omega) (by omega) (by simp [Value.category]) rfl (fun v9 M10 n11 h12 => ?_) (fun _ _ _ h12 => ?_)
    rotate_left
    · exact absurd h12.1 (by simp)
    obtain ⟨h12, e13, e14⟩ := h12
    replace e13 := e13.symm
    replace e14 := e14.symm
    subst e13
    subst e14
    cases h12
    rw [am_uu0 (a := 1225)]
    show am_V G _ _ _ _ _ 108 [(0, .ref 1225), (1, .int (f p))] [] (am_up (am_up M 1229 (.inl (0, 4096, .inl (upd g0 0 (f p))))) 1225 (.inr (12, [.ref 1226, .ref 1227, .ref 1228, .ref 1213, .ref 1220, .ref 1212, .int (nI n), .int (nI p), .int (nI (p + 1)), .int 3, .int op, .long nu, .ref 1229, .int (nI (1)), .ref 1230, .int tp, .int pl, .ref 1231, .int vd, .int kn, .int rk, .ref 1232]))) nx 0 0
    refine v_goto (tgt := 282) (am_Dk d_MR_sign (k := 12) rfl) (by decide) ?_
    have hx : tb f n p = 33 := Int32.toInt_inj.mp (((tf_i hb hp (k := 33) (by decide)).mp (by assumption)).trans (by decide))
    have htf : tb f n p = f p := (lk_f hb hp (by rw [hx]; decide)).symm
    have ht : tokMk f n p = (2, p, p + 1, 0, spl f n p (p + 1)) := by rw [tokMk, if_neg (fun z => absurd (z.1.symm.trans hx) (by decide)), if_pos (by rw [hx]; decide)]
    have hwp := wpI_1 (wpI_0 f n p g0) htf
    rw [ht]
    exact v_return (am_Dk d_MR_sign (k := 106) rfl) rfl (by omega) (by omega) ⟨3, 1, _, rfl, rfl, rfl, scT_2 (by decide) (by omega) (wpI_e hwp), tbB_up hg0 (hb _)⟩
  by_cases e15 : (f p).toInt = 40
  · refine v_lookup (tgt := 111) (am_Dk d_MR_sign (k := 1) rfl) (by decide) (by rw [e15]) (by decide) ?_
    refine v_aload_n (am_Dk d_MR_sign (k := 13) rfl) rfl ?_
    refine v_iconst (v := 4) (am_Dk d_MR_sign (k := 14) rfl) (by decide) ?_
    refine v_aload_n (am_Dk d_MR_sign (k := 15) rfl) rfl ?_
    refine v_get (am_Dk d_MR_sign (k := 16) rfl) f_MR_116 hr rfl ?_
    refine v_iconst (v := 1) (am_Dk d_MR_sign (k := 17) rfl) (by decide) ?_
    refine v_iadd (am_Dk d_MR_sign (k := 18) rfl) ?_
    rw [nI_1]
    refine v_callV (rest := []) (As := [.int 4, .int (nI (p + 1))]) (mc' := 0) (ms' := 0) (am_Dk d_MR_sign (k := 19) rfl) c_MR_158 (Or.inl ⟨_, _, _, _, _, hr, cq_ok12⟩) (t_MR_take G (d := 0) (by omega) hr) (by omega) (by omega) (by omega) (by simp [Value.category]) rfl (fun v16 M17 n18 h19 => ?_) (fun _ _ _ h19 => ?_)
    rotate_left
    · exact absurd h19.1 (by simp)
    obtain ⟨h19, e20, e21⟩ := h19
    replace e20 := e20.symm
    replace e21 := e21.symm
    subst e20
    subst e21
    cases h19
    show am_V G _ _ _ _ _ 122 [(0, .ref 1225), (1, .int (f p))] [] (am_up M 1225 (.inr (12, [.ref 1226, .ref 1227, .ref 1228, .ref 1213, .ref 1220, .ref 1212, .int (nI n), .int (nI p), .int (nI (p + 1)), .int 4, .int op, .long nu, .ref 1229, .int 0, .ref 1230, .int tp, .int pl, .ref 1231, .int vd, .int kn, .int rk, .ref 1232]))) nx 0 0
    refine v_goto (tgt := 282) (am_Dk d_MR_sign (k := 20) rfl) (by decide) ?_
    have hx : tb f n p = 40 := Int32.toInt_inj.mp (((tf_i hb hp (k := 40) (by decide)).mp (by assumption)).trans (by decide))
    have ht : tokMk f n p = (3, p, p + 1, 0, 0) := by rw [tokMk, if_neg (fun z => absurd (z.1.symm.trans hx) (by decide)), if_neg (by rw [hx]; decide), if_neg (by rw [hx]; decide), hx, show mkK 40 = 29 from by decide]; rfl
    rw [ht]
    exact v_return (am_Dk d_MR_sign (k := 106) rfl) rfl (by omega) (by omega) ⟨4, 0, g0, rfl, rfl, by rw [am_up_id hw]; rfl, scT_x (Or.inl ⟨by decide, by decide⟩) (by decide) (by decide) (by decide) (by decide), hg0⟩
  by_cases e22 : (f p).toInt = 41
  · refine v_lookup (tgt := 125) (am_Dk d_MR_sign (k := 1) rfl) (by decide) (by rw [e22]) (by decide) ?_
    refine v_aload_n (am_Dk d_MR_sign (k := 21) rfl) rfl ?_
    refine v_iconst (v := 5) (am_Dk d_MR_sign (k := 22) rfl) (by decide) ?_
    refine v_aload_n (am_Dk d_MR_sign (k := 23) rfl) rfl ?_
    refine v_get (am_Dk d_MR_sign (k := 24) rfl) f_MR_116 hr rfl ?_
    refine v_iconst (v := 1) (am_Dk d_MR_sign (k := 25) rfl) (by decide) ?_
    refine v_iadd (am_Dk d_MR_sign (k := 26) rfl) ?_
    rw [nI_1]
    refine v_callV (rest := []) (As := [.int 5, .int (nI (p + 1))]) (mc' := 0) (ms' := 0) (am_Dk d_MR_sign (k := 27) rfl) c_MR_158 (Or.inl ⟨_, _, _, _, _, hr, cq_ok12⟩) (t_MR_take G (d := 0) (by omega) hr) (by omega) (by omega) (by omega) (by simp [Value.category]) rfl (fun v23 M24 n25 h26 => ?_) (fun _ _ _ h26 => ?_)
    rotate_left
    · exact absurd h26.1 (by simp)
    obtain ⟨h26, e27, e28⟩ := h26
    replace e27 := e27.symm
    replace e28 := e28.symm
    subst e27
    subst e28
    cases h26
    show am_V G _ _ _ _ _ 136 [(0, .ref 1225), (1, .int (f p))] [] (am_up M 1225 (.inr (12, [.ref 1226, .ref 1227, .ref 1228, .ref 1213, .ref 1220, .ref 1212, .int (nI n), .int (nI p), .int (nI (p + 1)), .int 5, .int op, .long nu, .ref 1229, .int 0, .ref 1230, .int tp, .int pl, .ref 1231, .int vd, .int kn, .int rk, .ref 1232]))) nx 0 0
    refine v_goto (tgt := 282) (am_Dk d_MR_sign (k := 28) rfl) (by decide) ?_
    have hx : tb f n p = 41 := Int32.toInt_inj.mp (((tf_i hb hp (k := 41) (by decide)).mp (by assumption)).trans (by decide))
    have ht : tokMk f n p = (4, p, p + 1, 0, 0) := by rw [tokMk, if_neg (fun z => absurd (z.1.symm.trans hx) (by decide)), if_neg (by rw [hx]; decide), if_neg (by rw [hx]; decide), hx, show mkK 41 = 30 from by decide]; rfl
    rw [ht]
    exact v_return (am_Dk d_MR_sign (k := 106) rfl) rfl (by omega) (by omega) ⟨5, 0, g0, rfl, rfl, by rw [am_up_id hw]; rfl, scT_x (Or.inl ⟨by decide, by decide⟩) (by decide) (by decide) (by decide) (by decide), hg0⟩
  by_cases e29 : (f p).toInt = 44
  · refine v_lookup (tgt := 240) (am_Dk d_MR_sign (k := 1) rfl) (by decide) (by rw [e29]) (by decide) ?_
    refine v_aload_n (am_Dk d_MR_sign (k := 83) rfl) rfl ?_
    refine v_bipush (v := 10) (am_Dk d_MR_sign (k := 84) rfl) (by decide) ?_
    refine v_aload_n (am_Dk d_MR_sign (k := 85) rfl) rfl ?_
    refine v_get (am_Dk d_MR_sign (k := 86) rfl) f_MR_116 hr rfl ?_
    refine v_iconst (v := 1) (am_Dk d_MR_sign (k := 87) rfl) (by decide) ?_
    refine v_iadd (am_Dk d_MR_sign (k := 88) rfl) ?_
    rw [nI_1]
    refine v_callV (rest := []) (As := [.int 10, .int (nI (p + 1))]) (mc' := 0) (ms' := 0) (am_Dk d_MR_sign (k := 89) rfl) c_MR_158 (Or.inl ⟨_, _, _, _, _, hr, cq_ok12⟩) (t_MR_take G (d := 0) (by omega) hr) (by omega) (by omega) (by omega) (by simp [Value.category]) rfl (fun v30 M31 n32 h33 => ?_) (fun _ _ _ h33 => ?_)
    rotate_left
    · exact absurd h33.1 (by simp)
    obtain ⟨h33, e34, e35⟩ := h33
    replace e34 := e34.symm
    replace e35 := e35.symm
    subst e34
    subst e35
    cases h33
    show am_V G _ _ _ _ _ 252 [(0, .ref 1225), (1, .int (f p))] [] (am_up M 1225 (.inr (12, [.ref 1226, .ref 1227, .ref 1228, .ref 1213, .ref 1220, .ref 1212, .int (nI n), .int (nI p), .int (nI (p + 1)), .int 10, .int op, .long nu, .ref 1229, .int 0, .ref 1230, .int tp, .int pl, .ref 1231, .int vd, .int kn, .int rk, .ref 1232]))) nx 0 0
    refine v_goto (tgt := 282) (am_Dk d_MR_sign (k := 90) rfl) (by decide) ?_
    have hx : tb f n p = 44 := Int32.toInt_inj.mp (((tf_i hb hp (k := 44) (by decide)).mp (by assumption)).trans (by decide))
    have ht : tokMk f n p = (7, p, p + 1, 0, 1) := by rw [tokMk, if_neg (fun z => absurd (z.1.symm.trans hx) (by decide)), if_neg (by rw [hx]; decide), if_neg (by rw [hx]; decide), hx, show mkK 44 = 33 from by decide]; rfl
    rw [ht]
    exact v_return (am_Dk d_MR_sign (k := 106) rfl) rfl (by omega) (by omega) ⟨10, 0, g0, rfl, rfl, by rw [am_up_id hw]; rfl, scT_x (Or.inl ⟨by decide, by decide⟩) (by decide) (by decide) (by decide) (by decide), hg0⟩
  by_cases e36 : (f p).toInt = 59
  · refine v_lookup (tgt := 92) (am_Dk d_MR_sign (k := 1) rfl) (by decide) (by rw [e36]) (by decide) ?_
    refine v_aload_n (am_Dk d_MR_sign (k := 2) rfl) rfl ?_
    refine v_iload_n (am_Dk d_MR_sign (k := 3) rfl) rfl ?_
    refine v_callV (rest := []) (As := [.int (f p)]) (mc' := 0) (ms' := 0) (am_Dk d_MR_sign (k := 4) rfl) c_MR_154 (Or.inl ⟨_, _, _, _, _, hr, cq_ok12⟩) (t_MR_letter G (d := 0) (le := 0) (l := 0) (by omega) hr hw (by omega)) (by omega) (by omega) (by omega) (by simp [Value.category]) rfl (fun v37 M38 n39 h40 => ?_) (fun _ _ _ h40 => ?_)
    rotate_left
    · exact absurd h40.1 (by simp)
    obtain ⟨h40, e41, e42⟩ := h40
    replace e41 := e41.symm
    replace e42 := e42.symm
    subst e41
    subst e42
    cases h40
    rw [lt_nar (hb _)]
    show am_V G _ _ _ _ _ 97 [(0, .ref 1225), (1, .int (f p))] [] (am_up (am_up M 1229 (.inl (0, 4096, .inl (upd g0 0 (f p))))) 1225 (.inr (12, [.ref 1226, .ref 1227, .ref 1228, .ref 1213, .ref 1220, .ref 1212, .int (nI n), .int (nI p), .int be, .int tk, .int op, .long nu, .ref 1229, .int (nI (1)), .ref 1230, .int tp, .int pl, .ref 1231, .int vd, .int kn, .int rk, .ref 1232]))) nx 0 0
    refine v_aload_n (am_Dk d_MR_sign (k := 5) rfl) rfl ?_
    refine v_iconst (v := 3) (am_Dk d_MR_sign (k := 6) rfl) (by decide) ?_
    refine v_aload_n (am_Dk d_MR_sign (k := 7) rfl) rfl ?_
    have m43 : (am_up (am_up M 1229 (.inl (0, 4096, .inl (upd g0 0 (f p))))) 1225 (.inr (12, [.ref 1226, .ref 1227, .ref 1228, .ref 1213, .ref 1220, .ref 1212, .int (nI n), .int (nI p), .int be, .int tk, .int op, .long nu, .ref 1229, .int (nI (1)), .ref 1230, .int tp, .int pl, .ref 1231, .int vd, .int kn, .int rk, .ref 1232]))) 1225 = some (.inr (12, [.ref 1226, .ref 1227, .ref 1228, .ref 1213, .ref 1220, .ref 1212, .int (nI n), .int (nI p), .int be, .int tk, .int op, .long nu, .ref 1229, .int (nI (1)), .ref 1230, .int tp, .int pl, .ref 1231, .int vd, .int kn, .int rk, .ref 1232])) := am_up_eq _ _ _
    refine v_get (am_Dk d_MR_sign (k := 8) rfl) f_MR_116 m43 rfl ?_
    refine v_iconst (v := 1) (am_Dk d_MR_sign (k := 9) rfl) (by decide) ?_
    refine v_iadd (am_Dk d_MR_sign (k := 10) rfl) ?_
    rw [nI_1]
    refine v_callV (rest := []) (As := [.int 3, .int (nI (p + 1))]) (mc' := 0) (ms' := 0) (am_Dk d_MR_sign (k := 11) rfl) c_MR_158 (Or.inl ⟨_, _, _, _, _, m43, cq_ok12⟩) (t_MR_take G (d := 0) (by omega) m43) (by omega) (by omega) (by omega) (by simp [Value.category]) rfl (fun v44 M45 n46 h47 => ?_) (fun _ _ _ h47 => ?_)
    rotate_left
    · exact absurd h47.1 (by simp)
    obtain ⟨h47, e48, e49⟩ := h47
    replace e48 := e48.symm
    replace e49 := e49.symm
    subst e48
    subst e49
    cases h47
    rw [am_uu0 (a := 1225)]
    show am_V G _ _ _ _ _ 108 [(0, .ref 1225), (1, .int (f p))] [] (am_up (am_up M 1229 (.inl (0, 4096, .inl (upd g0 0 (f p))))) 1225 (.inr (12, [.ref 1226, .ref 1227, .ref 1228, .ref 1213, .ref 1220, .ref 1212, .int (nI n), .int (nI p), .int (nI (p + 1)), .int 3, .int op, .long nu, .ref 1229, .int (nI (1)), .ref 1230, .int tp, .int pl, .ref 1231, .int vd, .int kn, .int rk, .ref 1232]))) nx 0 0
    refine v_goto (tgt := 282) (am_Dk d_MR_sign (k := 12) rfl) (by decide) ?_
    have hx : tb f n p = 59 := Int32.toInt_inj.mp (((tf_i hb hp (k := 59) (by decide)).mp (by assumption)).trans (by decide))
    have htf : tb f n p = f p := (lk_f hb hp (by rw [hx]; decide)).symm
    have ht : tokMk f n p = (2, p, p + 1, 0, spl f n p (p + 1)) := by rw [tokMk, if_neg (fun z => absurd (z.1.symm.trans hx) (by decide)), if_pos (by rw [hx]; decide)]
    have hwp := wpI_1 (wpI_0 f n p g0) htf
    rw [ht]
    exact v_return (am_Dk d_MR_sign (k := 106) rfl) rfl (by omega) (by omega) ⟨3, 1, _, rfl, rfl, rfl, scT_2 (by decide) (by omega) (wpI_e hwp), tbB_up hg0 (hb _)⟩
  by_cases e50 : (f p).toInt = 91
  · refine v_lookup (tgt := 139) (am_Dk d_MR_sign (k := 1) rfl) (by decide) (by rw [e50]) (by decide) ?_
    refine v_aload_n (am_Dk d_MR_sign (k := 29) rfl) rfl ?_
    refine v_aload_n (am_Dk d_MR_sign (k := 30) rfl) rfl ?_
    refine v_get (am_Dk d_MR_sign (k := 31) rfl) f_MR_116 hr rfl ?_
    refine v_iconst (v := 1) (am_Dk d_MR_sign (k := 32) rfl) (by decide) ?_
    refine v_iadd (am_Dk d_MR_sign (k := 33) rfl) ?_
    rw [nI_1]
    refine v_callV (rest := []) (As := [.int (nI (p + 1))]) (mc' := 0) (ms' := 0) (am_Dk d_MR_sign (k := 34) rfl) c_MR_148 (Or.inl ⟨_, _, _, _, _, hr, cq_ok12⟩) (t_MR_look G (d := 0) (i := p + 1) (by omega) hr h2 hn (by omega)) (by omega) (by omega) (by omega) (by simp [Value.category]) rfl (fun v51 M52 n53 h54 => ?_) (fun _ _ _ h54 => ?_)
    rotate_left
    · exact absurd h54.1 (by simp)
    obtain ⟨h54, e55, e56⟩ := h54
    replace e55 := e55.symm
    replace e56 := e56.symm
    subst e55
    subst e56
    cases h54
    show am_V G _ _ _ _ _ 149 [(0, .ref 1225), (1, .int (f p))] [.int (lk f n (p + 1))] M nx 0 0
    refine v_bipush (v := 93) (am_Dk d_MR_sign (k := 35) rfl) (by decide) ?_
    refine v_icmp_ne (tgt := 180) (am_Dk d_MR_sign (k := 36) rfl) (by decide) (fun c57 => ?_) (fun c57 => ?_)
    · have h93 := c57
      refine v_aload_n (am_Dk d_MR_sign (k := 51) rfl) rfl ?_
      refine v_bipush (v := 6) (am_Dk d_MR_sign (k := 52) rfl) (by decide) ?_
      refine v_aload_n (am_Dk d_MR_sign (k := 53) rfl) rfl ?_
      refine v_get (am_Dk d_MR_sign (k := 54) rfl) f_MR_116 hr rfl ?_
      refine v_iconst (v := 1) (am_Dk d_MR_sign (k := 55) rfl) (by decide) ?_
      refine v_iadd (am_Dk d_MR_sign (k := 56) rfl) ?_
      rw [nI_1]
      refine v_callV (rest := []) (As := [.int 6, .int (nI (p + 1))]) (mc' := 0) (ms' := 0) (am_Dk d_MR_sign (k := 57) rfl) c_MR_158 (Or.inl ⟨_, _, _, _, _, hr, cq_ok12⟩) (t_MR_take G (d := 0) (by omega) hr) (by omega) (by omega) (by omega) (by simp [Value.category]) rfl (fun v58 M59 n60 h61 => ?_) (fun _ _ _ h61 => ?_)
      rotate_left
      · exact absurd h61.1 (by simp)
      obtain ⟨h61, e62, e63⟩ := h61
      replace e62 := e62.symm
      replace e63 := e63.symm
      subst e62
      subst e63
      cases h61
      show am_V G _ _ _ _ _ 192 [(0, .ref 1225), (1, .int (f p))] [] (am_up M 1225 (.inr (12, [.ref 1226, .ref 1227, .ref 1228, .ref 1213, .ref 1220, .ref 1212, .int (nI n), .int (nI p), .int (nI (p + 1)), .int 6, .int op, .long nu, .ref 1229, .int 0, .ref 1230, .int tp, .int pl, .ref 1231, .int vd, .int kn, .int rk, .ref 1232]))) nx 0 0
      refine v_goto (tgt := 282) (am_Dk d_MR_sign (k := 58) rfl) (by decide) ?_
      have hx : tb f n p = 91 := Int32.toInt_inj.mp (((tf_i hb hp (k := 91) (by decide)).mp (by assumption)).trans (by decide))
      have ht : tokMk f n p = (5, p, p + 1, 0, 0) := by rw [tokMk, if_neg (fun z => h93 ((lk_c hb n (p + 1) (by decide)).mpr z.2)), if_neg (by rw [hx]; decide), if_neg (by rw [hx]; decide), hx, show mkK 91 = 31 from by decide]; rfl
      rw [ht]
      exact v_return (am_Dk d_MR_sign (k := 106) rfl) rfl (by omega) (by omega) ⟨6, 0, g0, rfl, rfl, by rw [am_up_id hw]; rfl, scT_x (Or.inl ⟨by decide, by decide⟩) (by decide) (by decide) (by decide) (by decide), hg0⟩
    · have h93 := c57
      refine v_aload_n (am_Dk d_MR_sign (k := 37) rfl) rfl ?_
      refine v_bipush (v := 91) (am_Dk d_MR_sign (k := 38) rfl) (by decide) ?_
      refine v_callV (rest := []) (As := [.int 91]) (mc' := 0) (ms' := 0) (am_Dk d_MR_sign (k := 39) rfl) c_MR_154 (Or.inl ⟨_, _, _, _, _, hr, cq_ok12⟩) (t_MR_letter G (d := 0) (le := 0) (l := 0) (by omega) hr hw (by omega)) (by omega) (by omega) (by omega) (by simp [Value.category]) rfl (fun v64 M65 n66 h67 => ?_) (fun _ _ _ h67 => ?_)
      rotate_left
      · exact absurd h67.1 (by simp)
      obtain ⟨h67, e68, e69⟩ := h67
      replace e68 := e68.symm
      replace e69 := e69.symm
      subst e68
      subst e69
      cases h67
      rw [lt_nar ⟨by decide, by decide⟩]
      show am_V G _ _ _ _ _ 160 [(0, .ref 1225), (1, .int (f p))] [] (am_up (am_up M 1229 (.inl (0, 4096, .inl (upd g0 0 91)))) 1225 (.inr (12, [.ref 1226, .ref 1227, .ref 1228, .ref 1213, .ref 1220, .ref 1212, .int (nI n), .int (nI p), .int be, .int tk, .int op, .long nu, .ref 1229, .int (nI (1)), .ref 1230, .int tp, .int pl, .ref 1231, .int vd, .int kn, .int rk, .ref 1232]))) nx 0 0
      refine v_aload_n (am_Dk d_MR_sign (k := 40) rfl) rfl ?_
      refine v_bipush (v := 93) (am_Dk d_MR_sign (k := 41) rfl) (by decide) ?_
      have m70 : (am_up (am_up M 1229 (.inl (0, 4096, .inl (upd g0 0 91)))) 1225 (.inr (12, [.ref 1226, .ref 1227, .ref 1228, .ref 1213, .ref 1220, .ref 1212, .int (nI n), .int (nI p), .int be, .int tk, .int op, .long nu, .ref 1229, .int (nI (1)), .ref 1230, .int tp, .int pl, .ref 1231, .int vd, .int kn, .int rk, .ref 1232]))) 1225 = some (.inr (12, [.ref 1226, .ref 1227, .ref 1228, .ref 1213, .ref 1220, .ref 1212, .int (nI n), .int (nI p), .int be, .int tk, .int op, .long nu, .ref 1229, .int (nI (1)), .ref 1230, .int tp, .int pl, .ref 1231, .int vd, .int kn, .int rk, .ref 1232])) := am_up_eq _ _ _
      have m71 : (am_up (am_up M 1229 (.inl (0, 4096, .inl (upd g0 0 91)))) 1225 (.inr (12, [.ref 1226, .ref 1227, .ref 1228, .ref 1213, .ref 1220, .ref 1212, .int (nI n), .int (nI p), .int be, .int tk, .int op, .long nu, .ref 1229, .int (nI (1)), .ref 1230, .int tp, .int pl, .ref 1231, .int vd, .int kn, .int rk, .ref 1232]))) 1229 = some (.inl (0, 4096, .inl (upd g0 0 91))) := (am_up_ne (show 1229 ≠ 1225 from by decide)).trans (am_up_eq _ _ _)
      refine v_callV (rest := []) (As := [.int 93]) (mc' := 0) (ms' := 0) (am_Dk d_MR_sign (k := 42) rfl) c_MR_154 (Or.inl ⟨_, _, _, _, _, m70, cq_ok12⟩) (t_MR_letter G (d := 0) (le := 0) (l := 1) (by omega) m70 m71 (by omega)) (by omega) (by omega) (by omega) (by simp [Value.category]) rfl (fun v72 M73 n74 h75 => ?_) (fun _ _ _ h75 => ?_)
      rotate_left
      · exact absurd h75.1 (by simp)
      obtain ⟨h75, e76, e77⟩ := h75
      replace e76 := e76.symm
      replace e77 := e77.symm
      subst e76
      subst e77
      cases h75
      rw [lt_nar ⟨by decide, by decide⟩]
      rw [am_uu1 (a := 1229)]
      rw [am_uu1 (a := 1225)]
      show am_V G _ _ _ _ _ 166 [(0, .ref 1225), (1, .int (f p))] [] (am_up (am_up M 1229 (.inl (0, 4096, .inl (upd (upd g0 0 91) 1 93)))) 1225 (.inr (12, [.ref 1226, .ref 1227, .ref 1228, .ref 1213, .ref 1220, .ref 1212, .int (nI n), .int (nI p), .int be, .int tk, .int op, .long nu, .ref 1229, .int (nI (2)), .ref 1230, .int tp, .int pl, .ref 1231, .int vd, .int kn, .int rk, .ref 1232]))) nx 0 0
      refine v_aload_n (am_Dk d_MR_sign (k := 43) rfl) rfl ?_
      refine v_iconst (v := 3) (am_Dk d_MR_sign (k := 44) rfl) (by decide) ?_
      refine v_aload_n (am_Dk d_MR_sign (k := 45) rfl) rfl ?_
      have m78 : (am_up (am_up M 1229 (.inl (0, 4096, .inl (upd (upd g0 0 91) 1 93)))) 1225 (.inr (12, [.ref 1226, .ref 1227, .ref 1228, .ref 1213, .ref 1220, .ref 1212, .int (nI n), .int (nI p), .int be, .int tk, .int op, .long nu, .ref 1229, .int (nI (2)), .ref 1230, .int tp, .int pl, .ref 1231, .int vd, .int kn, .int rk, .ref 1232]))) 1225 = some (.inr (12, [.ref 1226, .ref 1227, .ref 1228, .ref 1213, .ref 1220, .ref 1212, .int (nI n), .int (nI p), .int be, .int tk, .int op, .long nu, .ref 1229, .int (nI (2)), .ref 1230, .int tp, .int pl, .ref 1231, .int vd, .int kn, .int rk, .ref 1232])) := am_up_eq _ _ _
      refine v_get (am_Dk d_MR_sign (k := 46) rfl) f_MR_116 m78 rfl ?_
      refine v_iconst (v := 2) (am_Dk d_MR_sign (k := 47) rfl) (by decide) ?_
      refine v_iadd (am_Dk d_MR_sign (k := 48) rfl) ?_
      rw [show (nI p + 2 : Int32) = nI (p + 2) from nI_add p 2]
      refine v_callV (rest := []) (As := [.int 3, .int (nI (p + 2))]) (mc' := 0) (ms' := 0) (am_Dk d_MR_sign (k := 49) rfl) c_MR_158 (Or.inl ⟨_, _, _, _, _, m78, cq_ok12⟩) (t_MR_take G (d := 0) (by omega) m78) (by omega) (by omega) (by omega) (by simp [Value.category]) rfl (fun v79 M80 n81 h82 => ?_) (fun _ _ _ h82 => ?_)
      rotate_left
      · exact absurd h82.1 (by simp)
      obtain ⟨h82, e83, e84⟩ := h82
      replace e83 := e83.symm
      replace e84 := e84.symm
      subst e83
      subst e84
      cases h82
      rw [am_uu0 (a := 1225)]
      show am_V G _ _ _ _ _ 177 [(0, .ref 1225), (1, .int (f p))] [] (am_up (am_up M 1229 (.inl (0, 4096, .inl (upd (upd g0 0 91) 1 93)))) 1225 (.inr (12, [.ref 1226, .ref 1227, .ref 1228, .ref 1213, .ref 1220, .ref 1212, .int (nI n), .int (nI p), .int (nI (p + 2)), .int 3, .int op, .long nu, .ref 1229, .int (nI (2)), .ref 1230, .int tp, .int pl, .ref 1231, .int vd, .int kn, .int rk, .ref 1232]))) nx 0 0
      refine v_goto (tgt := 282) (am_Dk d_MR_sign (k := 50) rfl) (by decide) ?_
      have hx : tb f n p = 91 := Int32.toInt_inj.mp (((tf_i hb hp (k := 91) (by decide)).mp (by assumption)).trans (by decide))
      have hx2 : tb f n (p + 1) = 93 := (lk_c hb n (p + 1) (by decide)).mp h93
      have hp1 : p + 1 < n := tb_in hx2 (by decide)
      have htf : tb f n p = f p := (lk_f hb hp (by rw [hx]; decide)).symm
      have htf2 : tb f n (p + 1) = f (p + 1) := (lk_f hb hp1 (by rw [hx2]; decide)).symm
      have ht : tokMk f n p = (2, p, p + 2, 0, spl f n p (p + 2)) := by rw [tokMk, if_pos ⟨hx, hx2⟩]
      have hwp := wpI_1 (wpI_1 (wpI_0 f n p g0) htf) htf2
      rw [← htf, ← htf2, hx, hx2] at hwp
      rw [ht]
      exact v_return (am_Dk d_MR_sign (k := 106) rfl) rfl (by omega) (by omega) ⟨3, 2, _, rfl, rfl, rfl, scT_2 (by decide) (by omega) (wpI_e hwp), tbB_up (tbB_up hg0 ⟨by decide, by decide⟩) ⟨by decide, by decide⟩⟩
  by_cases e85 : (f p).toInt = 93
  · refine v_lookup (tgt := 195) (am_Dk d_MR_sign (k := 1) rfl) (by decide) (by rw [e85]) (by decide) ?_
    refine v_aload_n (am_Dk d_MR_sign (k := 59) rfl) rfl ?_
    refine v_bipush (v := 7) (am_Dk d_MR_sign (k := 60) rfl) (by decide) ?_
    refine v_aload_n (am_Dk d_MR_sign (k := 61) rfl) rfl ?_
    refine v_get (am_Dk d_MR_sign (k := 62) rfl) f_MR_116 hr rfl ?_
    refine v_iconst (v := 1) (am_Dk d_MR_sign (k := 63) rfl) (by decide) ?_
    refine v_iadd (am_Dk d_MR_sign (k := 64) rfl) ?_
    rw [nI_1]
    refine v_callV (rest := []) (As := [.int 7, .int (nI (p + 1))]) (mc' := 0) (ms' := 0) (am_Dk d_MR_sign (k := 65) rfl) c_MR_158 (Or.inl ⟨_, _, _, _, _, hr, cq_ok12⟩) (t_MR_take G (d := 0) (by omega) hr) (by omega) (by omega) (by omega) (by simp [Value.category]) rfl (fun v86 M87 n88 h89 => ?_) (fun _ _ _ h89 => ?_)
    rotate_left
    · exact absurd h89.1 (by simp)
    obtain ⟨h89, e90, e91⟩ := h89
    replace e90 := e90.symm
    replace e91 := e91.symm
    subst e90
    subst e91
    cases h89
    show am_V G _ _ _ _ _ 207 [(0, .ref 1225), (1, .int (f p))] [] (am_up M 1225 (.inr (12, [.ref 1226, .ref 1227, .ref 1228, .ref 1213, .ref 1220, .ref 1212, .int (nI n), .int (nI p), .int (nI (p + 1)), .int 7, .int op, .long nu, .ref 1229, .int 0, .ref 1230, .int tp, .int pl, .ref 1231, .int vd, .int kn, .int rk, .ref 1232]))) nx 0 0
    refine v_goto (tgt := 282) (am_Dk d_MR_sign (k := 66) rfl) (by decide) ?_
    have hx : tb f n p = 93 := Int32.toInt_inj.mp (((tf_i hb hp (k := 93) (by decide)).mp (by assumption)).trans (by decide))
    have ht : tokMk f n p = (6, p, p + 1, 0, 0) := by rw [tokMk, if_neg (fun z => absurd (z.1.symm.trans hx) (by decide)), if_neg (by rw [hx]; decide), if_neg (by rw [hx]; decide), hx, show mkK 93 = 32 from by decide]; rfl
    rw [ht]
    exact v_return (am_Dk d_MR_sign (k := 106) rfl) rfl (by omega) (by omega) ⟨7, 0, g0, rfl, rfl, by rw [am_up_id hw]; rfl, scT_x (Or.inl ⟨by decide, by decide⟩) (by decide) (by decide) (by decide) (by decide), hg0⟩
  by_cases e92 : (f p).toInt = 123
  · refine v_lookup (tgt := 210) (am_Dk d_MR_sign (k := 1) rfl) (by decide) (by rw [e92]) (by decide) ?_
    refine v_aload_n (am_Dk d_MR_sign (k := 67) rfl) rfl ?_
    refine v_bipush (v := 8) (am_Dk d_MR_sign (k := 68) rfl) (by decide) ?_
    refine v_aload_n (am_Dk d_MR_sign (k := 69) rfl) rfl ?_
    refine v_get (am_Dk d_MR_sign (k := 70) rfl) f_MR_116 hr rfl ?_
    refine v_iconst (v := 1) (am_Dk d_MR_sign (k := 71) rfl) (by decide) ?_
    refine v_iadd (am_Dk d_MR_sign (k := 72) rfl) ?_
    rw [nI_1]
    refine v_callV (rest := []) (As := [.int 8, .int (nI (p + 1))]) (mc' := 0) (ms' := 0) (am_Dk d_MR_sign (k := 73) rfl) c_MR_158 (Or.inl ⟨_, _, _, _, _, hr, cq_ok12⟩) (t_MR_take G (d := 0) (by omega) hr) (by omega) (by omega) (by omega) (by simp [Value.category]) rfl (fun v93 M94 n95 h96 => ?_) (fun _ _ _ h96 => ?_)
    rotate_left
    · exact absurd h96.1 (by simp)
    obtain ⟨h96, e97, e98⟩ := h96
    replace e97 := e97.symm
    replace e98 := e98.symm
    subst e97
    subst e98
    cases h96
    show am_V G _ _ _ _ _ 222 [(0, .ref 1225), (1, .int (f p))] [] (am_up M 1225 (.inr (12, [.ref 1226, .ref 1227, .ref 1228, .ref 1213, .ref 1220, .ref 1212, .int (nI n), .int (nI p), .int (nI (p + 1)), .int 8, .int op, .long nu, .ref 1229, .int 0, .ref 1230, .int tp, .int pl, .ref 1231, .int vd, .int kn, .int rk, .ref 1232]))) nx 0 0
    refine v_goto (tgt := 282) (am_Dk d_MR_sign (k := 74) rfl) (by decide) ?_
    have hx : tb f n p = 123 := Int32.toInt_inj.mp (((tf_i hb hp (k := 123) (by decide)).mp (by assumption)).trans (by decide))
    have hk37 : mkK (tb f n p) = 37 := by rw [hx]; decide
    have ht : tokMk f n p = (11, p, p + 1, 0, 0) := by rw [tokMk, if_neg (by rw [hx]; exact fun z => absurd z.1 (by decide)), if_neg (by rw [hx]; decide), if_neg (tb_m1 hb hp), hk37]; rfl
    rw [ht]
    exact v_return (am_Dk d_MR_sign (k := 106) rfl) rfl (by omega) (by omega) ⟨8, 0, g0, rfl, rfl, by rw [am_up_id hw]; rfl, scT_x (Or.inr ⟨rfl, Or.inl rfl⟩) (by decide) (by decide) (by decide) (by decide), hg0⟩
  by_cases e99 : (f p).toInt = 124
  · refine v_lookup (tgt := 255) (am_Dk d_MR_sign (k := 1) rfl) (by decide) (by rw [e99]) (by decide) ?_
    refine v_aload_n (am_Dk d_MR_sign (k := 91) rfl) rfl ?_
    refine v_bipush (v := 11) (am_Dk d_MR_sign (k := 92) rfl) (by decide) ?_
    refine v_aload_n (am_Dk d_MR_sign (k := 93) rfl) rfl ?_
    refine v_get (am_Dk d_MR_sign (k := 94) rfl) f_MR_116 hr rfl ?_
    refine v_iconst (v := 1) (am_Dk d_MR_sign (k := 95) rfl) (by decide) ?_
    refine v_iadd (am_Dk d_MR_sign (k := 96) rfl) ?_
    rw [nI_1]
    refine v_callV (rest := []) (As := [.int 11, .int (nI (p + 1))]) (mc' := 0) (ms' := 0) (am_Dk d_MR_sign (k := 97) rfl) c_MR_158 (Or.inl ⟨_, _, _, _, _, hr, cq_ok12⟩) (t_MR_take G (d := 0) (by omega) hr) (by omega) (by omega) (by omega) (by simp [Value.category]) rfl (fun v100 M101 n102 h103 => ?_) (fun _ _ _ h103 => ?_)
    rotate_left
    · exact absurd h103.1 (by simp)
    obtain ⟨h103, e104, e105⟩ := h103
    replace e104 := e104.symm
    replace e105 := e105.symm
    subst e104
    subst e105
    cases h103
    show am_V G _ _ _ _ _ 267 [(0, .ref 1225), (1, .int (f p))] [] (am_up M 1225 (.inr (12, [.ref 1226, .ref 1227, .ref 1228, .ref 1213, .ref 1220, .ref 1212, .int (nI n), .int (nI p), .int (nI (p + 1)), .int 11, .int op, .long nu, .ref 1229, .int 0, .ref 1230, .int tp, .int pl, .ref 1231, .int vd, .int kn, .int rk, .ref 1232]))) nx 0 0
    refine v_goto (tgt := 282) (am_Dk d_MR_sign (k := 98) rfl) (by decide) ?_
    have hx : tb f n p = 124 := Int32.toInt_inj.mp (((tf_i hb hp (k := 124) (by decide)).mp (by assumption)).trans (by decide))
    have ht : tokMk f n p = (8, p, p + 1, 0, 0) := by rw [tokMk, if_neg (fun z => absurd (z.1.symm.trans hx) (by decide)), if_neg (by rw [hx]; decide), if_neg (by rw [hx]; decide), hx, show mkK 124 = 34 from by decide]; rfl
    rw [ht]
    exact v_return (am_Dk d_MR_sign (k := 106) rfl) rfl (by omega) (by omega) ⟨11, 0, g0, rfl, rfl, by rw [am_up_id hw]; rfl, scT_x (Or.inl ⟨by decide, by decide⟩) (by decide) (by decide) (by decide) (by decide), hg0⟩
  by_cases e106 : (f p).toInt = 125
  · refine v_lookup (tgt := 225) (am_Dk d_MR_sign (k := 1) rfl) (by decide) (by rw [e106]) (by decide) ?_
    refine v_aload_n (am_Dk d_MR_sign (k := 75) rfl) rfl ?_
    refine v_bipush (v := 9) (am_Dk d_MR_sign (k := 76) rfl) (by decide) ?_
    refine v_aload_n (am_Dk d_MR_sign (k := 77) rfl) rfl ?_
    refine v_get (am_Dk d_MR_sign (k := 78) rfl) f_MR_116 hr rfl ?_
    refine v_iconst (v := 1) (am_Dk d_MR_sign (k := 79) rfl) (by decide) ?_
    refine v_iadd (am_Dk d_MR_sign (k := 80) rfl) ?_
    rw [nI_1]
    refine v_callV (rest := []) (As := [.int 9, .int (nI (p + 1))]) (mc' := 0) (ms' := 0) (am_Dk d_MR_sign (k := 81) rfl) c_MR_158 (Or.inl ⟨_, _, _, _, _, hr, cq_ok12⟩) (t_MR_take G (d := 0) (by omega) hr) (by omega) (by omega) (by omega) (by simp [Value.category]) rfl (fun v107 M108 n109 h110 => ?_) (fun _ _ _ h110 => ?_)
    rotate_left
    · exact absurd h110.1 (by simp)
    obtain ⟨h110, e111, e112⟩ := h110
    replace e111 := e111.symm
    replace e112 := e112.symm
    subst e111
    subst e112
    cases h110
    show am_V G _ _ _ _ _ 237 [(0, .ref 1225), (1, .int (f p))] [] (am_up M 1225 (.inr (12, [.ref 1226, .ref 1227, .ref 1228, .ref 1213, .ref 1220, .ref 1212, .int (nI n), .int (nI p), .int (nI (p + 1)), .int 9, .int op, .long nu, .ref 1229, .int 0, .ref 1230, .int tp, .int pl, .ref 1231, .int vd, .int kn, .int rk, .ref 1232]))) nx 0 0
    refine v_goto (tgt := 282) (am_Dk d_MR_sign (k := 82) rfl) (by decide) ?_
    have hx : tb f n p = 125 := Int32.toInt_inj.mp (((tf_i hb hp (k := 125) (by decide)).mp (by assumption)).trans (by decide))
    have hk37 : mkK (tb f n p) = 37 := by rw [hx]; decide
    have ht : tokMk f n p = (11, p, p + 1, 0, 0) := by rw [tokMk, if_neg (by rw [hx]; exact fun z => absurd z.1 (by decide)), if_neg (by rw [hx]; decide), if_neg (tb_m1 hb hp), hk37]; rfl
    rw [ht]
    exact v_return (am_Dk d_MR_sign (k := 106) rfl) rfl (by omega) (by omega) ⟨9, 0, g0, rfl, rfl, by rw [am_up_id hw]; rfl, scT_x (Or.inr ⟨rfl, Or.inr (Or.inl rfl)⟩) (by decide) (by decide) (by decide) (by decide), hg0⟩
  refine v_lookup (tgt := 270) (am_Dk d_MR_sign (k := 1) rfl) (by decide) (show Op.lookupswitch.offset [(33, 91), (40, 110), (41, 124), (44, 239), (59, 91), (91, 138), (93, 194), (123, 209), (124, 254), (125, 224)] 269 (f p).toInt = 269 from by rw [Op.lookupswitch.offset_cons, if_neg (fun z => e1 z.symm), Op.lookupswitch.offset_cons, if_neg (fun z => e15 z.symm), Op.lookupswitch.offset_cons, if_neg (fun z => e22 z.symm), Op.lookupswitch.offset_cons, if_neg (fun z => e29 z.symm), Op.lookupswitch.offset_cons, if_neg (fun z => e36 z.symm), Op.lookupswitch.offset_cons, if_neg (fun z => e50 z.symm), Op.lookupswitch.offset_cons, if_neg (fun z => e85 z.symm), Op.lookupswitch.offset_cons, if_neg (fun z => e92 z.symm), Op.lookupswitch.offset_cons, if_neg (fun z => e99 z.symm), Op.lookupswitch.offset_cons, if_neg (fun z => e106 z.symm), Op.lookupswitch.offset_nil]) (by decide) ?_
  refine v_aload_n (am_Dk d_MR_sign (k := 99) rfl) rfl ?_
  refine v_bipush (v := 12) (am_Dk d_MR_sign (k := 100) rfl) (by decide) ?_
  refine v_aload_n (am_Dk d_MR_sign (k := 101) rfl) rfl ?_
  refine v_get (am_Dk d_MR_sign (k := 102) rfl) f_MR_116 hr rfl ?_
  refine v_iconst (v := 1) (am_Dk d_MR_sign (k := 103) rfl) (by decide) ?_
  refine v_iadd (am_Dk d_MR_sign (k := 104) rfl) ?_
  rw [nI_1]
  refine v_callV (rest := []) (As := [.int 12, .int (nI (p + 1))]) (mc' := 0) (ms' := 0) (am_Dk d_MR_sign (k := 105) rfl) c_MR_158 (Or.inl ⟨_, _, _, _, _, hr, cq_ok12⟩) (t_MR_take G (d := 0) (by omega) hr) (by omega) (by omega) (by omega) (by simp [Value.category]) rfl (fun v113 M114 n115 h116 => ?_) (fun _ _ _ h116 => ?_)
  rotate_left
  · exact absurd h116.1 (by simp)
  obtain ⟨h116, e117, e118⟩ := h116
  replace e117 := e117.symm
  replace e118 := e118.symm
  subst e117
  subst e118
  cases h116
  show am_V G _ _ _ _ _ 282 [(0, .ref 1225), (1, .int (f p))] [] (am_up M 1225 (.inr (12, [.ref 1226, .ref 1227, .ref 1228, .ref 1213, .ref 1220, .ref 1212, .int (nI n), .int (nI p), .int (nI (p + 1)), .int 12, .int op, .long nu, .ref 1229, .int 0, .ref 1230, .int tp, .int pl, .ref 1231, .int vd, .int kn, .int rk, .ref 1232]))) nx 0 0
  rw [tf_i hb hp (k := 33) (by decide)] at e1
  rw [tf_i hb hp (k := 40) (by decide)] at e15
  rw [tf_i hb hp (k := 41) (by decide)] at e22
  rw [tf_i hb hp (k := 44) (by decide)] at e29
  rw [tf_i hb hp (k := 59) (by decide)] at e36
  rw [tf_i hb hp (k := 91) (by decide)] at e50
  rw [tf_i hb hp (k := 93) (by decide)] at e85
  rw [tf_i hb hp (k := 123) (by decide)] at e92
  rw [tf_i hb hp (k := 124) (by decide)] at e99
  rw [tf_i hb hp (k := 125) (by decide)] at e106
  have hk37 : mkK (tb f n p) = 37 := by rw [mkK, if_neg e15, if_neg e22, if_neg e29, if_neg e50, if_neg e85, if_neg e99]
  have ht : tokMk f n p = (11, p, p + 1, 0, 0) := by rw [tokMk, if_neg (fun z => e50 (by rw [z.1]; decide)), if_neg (fun z => z.elim (fun y => e1 (by rw [y]; decide)) (fun y => e36 (by rw [y]; decide))), if_neg (tb_m1 hb hp), hk37]; rfl
  rw [ht]
  exact v_return (am_Dk d_MR_sign (k := 106) rfl) rfl (by omega) (by omega) ⟨12, 0, g0, rfl, rfl, by rw [am_up_id hw]; rfl, scT_x (Or.inr ⟨rfl, Or.inr (Or.inr rfl)⟩) (by decide) (by decide) (by decide) (by decide), hg0⟩
set_option maxRecDepth 20000 in
theorem l_MR_blanks (G : am_G) {d nx : Nat} (hd : 0 < d) {M : am_M} {n : Nat} {at9 be tk op le tp pl vd kn rk : Int32} {nu : Int64} {p : Nat} (hr : M 1225 = some (.inr (12, [.ref 1226, .ref 1227, .ref 1228, .ref 1213, .ref 1220, .ref 1212, .int (nI n), .int at9, .int be, .int tk, .int op, .long nu, .ref 1229, .int le, .ref 1230, .int tp, .int pl, .ref 1231, .int vd, .int kn, .int rk, .ref 1232]))) {f : Nat → Int32} (h2 : M 1212 = some (.inl (0, 4096, .inl f))) (hn : n ≤ 4096) (hb : tbB f) {Q : am_Qt} (hk : am_V G m_MR_scan d 0 0 Q 78 [(1, .int (nI p)), (0, .ref 1225)] [] M nx 0 0) : ∀ m i, i + m = n → (pbF (tb f n) n m i false = p → am_V G m_MR_scan d 0 0 Q 5 [(1, .int (nI i)), (0, .ref 1225)] [] M nx 0 0) ∧ (pbF (tb f n) n m i true = p → am_V G m_MR_scan d 0 0 Q 47 [(1, .int (nI i)), (0, .ref 1225)] [] M nx 0 0) := by
  intro m
  induction m with
  | zero =>
    intro i him
    refine ⟨fun h => ?_, fun h => ?_⟩
    · rw [pbF] at h
      have hip : i = p := by omega
      subst hip
      refine v_iload_n (am_Dk d_MR_scan (k := 3) rfl) rfl ?_
      refine v_aload_n (am_Dk d_MR_scan (k := 4) rfl) rfl ?_
      refine v_get (am_Dk d_MR_scan (k := 5) rfl) f_MR_92 hr rfl ?_
      refine v_icmp_ge (tgt := 78) (am_Dk d_MR_scan (k := 6) rfl) (by decide) (fun c1 => ?_) (fun c1 => ?_)
      · have Nc1 := (nI_leI (a := n) (b := i) (by omega) (by omega)).mp c1
        exact hk
      · have Nc1 : ¬ n ≤ i := fun z => c1 ((nI_leI (a := n) (b := i) (by omega) (by omega)).mpr z)
        exfalso
        omega
    · rw [pbF] at h
      have hip : i = p := by omega
      subst hip
      refine v_iload_n (am_Dk d_MR_scan (k := 25) rfl) rfl ?_
      refine v_aload_n (am_Dk d_MR_scan (k := 26) rfl) rfl ?_
      refine v_get (am_Dk d_MR_scan (k := 27) rfl) f_MR_92 hr rfl ?_
      refine v_icmp_ge (tgt := 5) (am_Dk d_MR_scan (k := 28) rfl) (by decide) (fun c1 => ?_) (fun c1 => ?_)
      · have Nc1 := (nI_leI (a := n) (b := i) (by omega) (by omega)).mp c1
        refine v_iload_n (am_Dk d_MR_scan (k := 3) rfl) rfl ?_
        refine v_aload_n (am_Dk d_MR_scan (k := 4) rfl) rfl ?_
        refine v_get (am_Dk d_MR_scan (k := 5) rfl) f_MR_92 hr rfl ?_
        refine v_icmp_ge (tgt := 78) (am_Dk d_MR_scan (k := 6) rfl) (by decide) (fun c2 => ?_) (fun c2 => ?_)
        · have Nc2 := (nI_leI (a := n) (b := i) (by omega) (by omega)).mp c2
          exact hk
        · have Nc2 : ¬ n ≤ i := fun z => c2 ((nI_leI (a := n) (b := i) (by omega) (by omega)).mpr z)
          exfalso
          omega
      · have Nc1 : ¬ n ≤ i := fun z => c1 ((nI_leI (a := n) (b := i) (by omega) (by omega)).mpr z)
        exfalso
        omega
  | succ m ih =>
    intro i him
    have hin : i < n := by omega
    obtain ⟨ih1, ih2⟩ := ih (i + 1) (by omega)
    have hlf : lk f n i = f i := by rw [lk, if_pos hin]
    have ebl : blB (f i) = blB (tb f n i) := by rw [← hlf]; exact lk_bl hb n i
    have e37 : f i = 37 ↔ tb f n i = 37 := by rw [← hlf]; exact lk_c hb n i (by decide)
    have e10 : f i = 10 ↔ tb f n i = 10 := by rw [← hlf]; exact lk_c hb n i (by decide)
    have hA : pbF (tb f n) n (m + 1) i false = p → am_V G m_MR_scan d 0 0 Q 5 [(1, .int (nI i)), (0, .ref 1225)] [] M nx 0 0 := by
      intro h
      rw [pbF, if_neg (by decide)] at h
      refine v_iload_n (am_Dk d_MR_scan (k := 3) rfl) rfl ?_
      refine v_aload_n (am_Dk d_MR_scan (k := 4) rfl) rfl ?_
      refine v_get (am_Dk d_MR_scan (k := 5) rfl) f_MR_92 hr rfl ?_
      refine v_icmp_ge (tgt := 78) (am_Dk d_MR_scan (k := 6) rfl) (by decide) (fun c1 => ?_) (fun c1 => ?_)
      · have Nc1 := (nI_leI (a := n) (b := i) (by omega) (by omega)).mp c1
        exfalso
        omega
      · have Nc1 : ¬ n ≤ i := fun z => c1 ((nI_leI (a := n) (b := i) (by omega) (by omega)).mpr z)
        refine v_aload_n (am_Dk d_MR_scan (k := 7) rfl) rfl ?_
        refine v_get (am_Dk d_MR_scan (k := 8) rfl) f_MR_89 hr rfl ?_
        refine v_iload_n (am_Dk d_MR_scan (k := 9) rfl) rfl ?_
        refine v_bald (am_Dk d_MR_scan (k := 10) rfl) h2 rfl (vp_in4 (by omega)) ?_
        rw [nI_clamp (n := i) (by omega)]
        refine v_callS (rest := []) (As := [.int (f (i))]) (mc' := 0) (ms' := 0) (am_Dk d_MR_scan (k := 11) rfl) c_MR_135 (t_MR_blank G (d := 0)) (by omega) (by omega) (by omega) (by simp [Value.category]) rfl (fun v2 M3 n4 h5 => ?_) (fun _ _ _ h5 => ?_)
        rotate_left
        · exact absurd h5.1 (by simp)
        obtain ⟨h5, e6, e7⟩ := h5
        replace e6 := e6.symm
        replace e7 := e7.symm
        subst e6
        subst e7
        cases h5
        show am_V G _ _ _ _ _ 22 [(1, .int (nI i)), (0, .ref 1225)] [.int (bi (blB (f (i))))] M nx 0 0
        refine v_if_ne (tgt := 36) (am_Dk d_MR_scan (k := 12) rfl) (by decide) (fun c8 => ?_) (fun c8 => ?_)
        · have hbl : blB (tb f n i) = true := by rw [← ebl]; exact bi1 c8
          refine v_aload_n (am_Dk d_MR_scan (k := 19) rfl) rfl ?_
          refine v_get (am_Dk d_MR_scan (k := 20) rfl) f_MR_89 hr rfl ?_
          refine v_iload_n (am_Dk d_MR_scan (k := 21) rfl) rfl ?_
          refine v_bald (am_Dk d_MR_scan (k := 22) rfl) h2 rfl (vp_in4 (by omega)) ?_
          rw [nI_clamp (n := i) (by omega)]
          refine v_bipush (v := 37) (am_Dk d_MR_scan (k := 23) rfl) (by decide) ?_
          refine v_icmp_ne (tgt := 72) (am_Dk d_MR_scan (k := 24) rfl) (by decide) (fun c9 => ?_) (fun c9 => ?_)
          · have hn37 : ¬ tb f n i = 37 := fun z => c9 (e37.mpr z)
            refine v_iinc (v := nI (i + 1)) (L1 := [(1, .int (nI (i + 1))), (0, .ref 1225)]) (am_Dk d_MR_scan (k := 37) rfl) rfl (nI_1 _) (by decide) rfl ?_
            refine v_goto (tgt := 5) (am_Dk d_MR_scan (k := 38) rfl) (by decide) ?_
            first | exact absurd h37 hn37 | exact ih1 (by rw [if_neg hn37, if_pos hbl] at h; exact h)
          · have h37 : tb f n i = 37 := e37.mp (c9)
            refine v_iload_n (am_Dk d_MR_scan (k := 25) rfl) rfl ?_
            refine v_aload_n (am_Dk d_MR_scan (k := 26) rfl) rfl ?_
            refine v_get (am_Dk d_MR_scan (k := 27) rfl) f_MR_92 hr rfl ?_
            refine v_icmp_ge (tgt := 5) (am_Dk d_MR_scan (k := 28) rfl) (by decide) (fun c10 => ?_) (fun c10 => ?_)
            · have Nc10 := (nI_leI (a := n) (b := i) (by omega) (by omega)).mp c10
              exfalso
              omega
            · have Nc10 : ¬ n ≤ i := fun z => c10 ((nI_leI (a := n) (b := i) (by omega) (by omega)).mpr z)
              refine v_aload_n (am_Dk d_MR_scan (k := 29) rfl) rfl ?_
              refine v_get (am_Dk d_MR_scan (k := 30) rfl) f_MR_89 hr rfl ?_
              refine v_iload_n (am_Dk d_MR_scan (k := 31) rfl) rfl ?_
              refine v_bald (am_Dk d_MR_scan (k := 32) rfl) h2 rfl (vp_in4 (by omega)) ?_
              rw [nI_clamp (n := i) (by omega)]
              refine v_bipush (v := 10) (am_Dk d_MR_scan (k := 33) rfl) (by decide) ?_
              refine v_icmp_eq (tgt := 5) (am_Dk d_MR_scan (k := 34) rfl) (by decide) (fun c11 => ?_) (fun c11 => ?_)
              · exact absurd (h37.symm.trans (e10.mp c11)) (by decide)
              · refine v_iinc (v := nI (i + 1)) (L1 := [(1, .int (nI (i + 1))), (0, .ref 1225)]) (am_Dk d_MR_scan (k := 35) rfl) rfl (nI_1 _) (by decide) rfl ?_
                refine v_goto (tgt := 47) (am_Dk d_MR_scan (k := 36) rfl) (by decide) ?_
                exact ih2 (by rw [if_pos h37] at h; exact h)
        · have hbl : ¬ blB (tb f n i) = true := by rw [← ebl]; exact ne_true_of_eq_false (bi0.mp (c8))
          refine v_aload_n (am_Dk d_MR_scan (k := 13) rfl) rfl ?_
          refine v_get (am_Dk d_MR_scan (k := 14) rfl) f_MR_89 hr rfl ?_
          refine v_iload_n (am_Dk d_MR_scan (k := 15) rfl) rfl ?_
          refine v_bald (am_Dk d_MR_scan (k := 16) rfl) h2 rfl (vp_in4 (by omega)) ?_
          rw [nI_clamp (n := i) (by omega)]
          refine v_bipush (v := 37) (am_Dk d_MR_scan (k := 17) rfl) (by decide) ?_
          refine v_icmp_ne (tgt := 78) (am_Dk d_MR_scan (k := 18) rfl) (by decide) (fun c12 => ?_) (fun c12 => ?_)
          · have hn37 : ¬ tb f n i = 37 := fun z => c12 (e37.mpr z)
            have hip : i = p := by rw [if_neg hn37, if_neg hbl] at h; exact h
            subst hip
            exact hk
          · have h37 : tb f n i = 37 := e37.mp (c12)
            refine v_aload_n (am_Dk d_MR_scan (k := 19) rfl) rfl ?_
            refine v_get (am_Dk d_MR_scan (k := 20) rfl) f_MR_89 hr rfl ?_
            refine v_iload_n (am_Dk d_MR_scan (k := 21) rfl) rfl ?_
            refine v_bald (am_Dk d_MR_scan (k := 22) rfl) h2 rfl (vp_in4 (by omega)) ?_
            rw [nI_clamp (n := i) (by omega)]
            refine v_bipush (v := 37) (am_Dk d_MR_scan (k := 23) rfl) (by decide) ?_
            refine v_icmp_ne (tgt := 72) (am_Dk d_MR_scan (k := 24) rfl) (by decide) (fun c13 => ?_) (fun c13 => ?_)
            · have hn37 : ¬ tb f n i = 37 := fun z => c13 (e37.mpr z)
              refine v_iinc (v := nI (i + 1)) (L1 := [(1, .int (nI (i + 1))), (0, .ref 1225)]) (am_Dk d_MR_scan (k := 37) rfl) rfl (nI_1 _) (by decide) rfl ?_
              refine v_goto (tgt := 5) (am_Dk d_MR_scan (k := 38) rfl) (by decide) ?_
              first | exact absurd h37 hn37 | exact ih1 (by rw [if_neg hn37, if_pos hbl] at h; exact h)
            · have h37 : tb f n i = 37 := e37.mp (c13)
              refine v_iload_n (am_Dk d_MR_scan (k := 25) rfl) rfl ?_
              refine v_aload_n (am_Dk d_MR_scan (k := 26) rfl) rfl ?_
              refine v_get (am_Dk d_MR_scan (k := 27) rfl) f_MR_92 hr rfl ?_
              refine v_icmp_ge (tgt := 5) (am_Dk d_MR_scan (k := 28) rfl) (by decide) (fun c14 => ?_) (fun c14 => ?_)
              · have Nc14 := (nI_leI (a := n) (b := i) (by omega) (by omega)).mp c14
                exfalso
                omega
              · have Nc14 : ¬ n ≤ i := fun z => c14 ((nI_leI (a := n) (b := i) (by omega) (by omega)).mpr z)
                refine v_aload_n (am_Dk d_MR_scan (k := 29) rfl) rfl ?_
                refine v_get (am_Dk d_MR_scan (k := 30) rfl) f_MR_89 hr rfl ?_
                refine v_iload_n (am_Dk d_MR_scan (k := 31) rfl) rfl ?_
                refine v_bald (am_Dk d_MR_scan (k := 32) rfl) h2 rfl (vp_in4 (by omega)) ?_
                rw [nI_clamp (n := i) (by omega)]
                refine v_bipush (v := 10) (am_Dk d_MR_scan (k := 33) rfl) (by decide) ?_
                refine v_icmp_eq (tgt := 5) (am_Dk d_MR_scan (k := 34) rfl) (by decide) (fun c15 => ?_) (fun c15 => ?_)
                · exact absurd (h37.symm.trans (e10.mp c15)) (by decide)
                · refine v_iinc (v := nI (i + 1)) (L1 := [(1, .int (nI (i + 1))), (0, .ref 1225)]) (am_Dk d_MR_scan (k := 35) rfl) rfl (nI_1 _) (by decide) rfl ?_
                  refine v_goto (tgt := 47) (am_Dk d_MR_scan (k := 36) rfl) (by decide) ?_
                  exact ih2 (by rw [if_pos h37] at h; exact h)
    refine ⟨hA, fun h => ?_⟩
    refine v_iload_n (am_Dk d_MR_scan (k := 25) rfl) rfl ?_
    refine v_aload_n (am_Dk d_MR_scan (k := 26) rfl) rfl ?_
    refine v_get (am_Dk d_MR_scan (k := 27) rfl) f_MR_92 hr rfl ?_
    refine v_icmp_ge (tgt := 5) (am_Dk d_MR_scan (k := 28) rfl) (by decide) (fun c1 => ?_) (fun c1 => ?_)
    · have Nc1 := (nI_leI (a := n) (b := i) (by omega) (by omega)).mp c1
      exfalso
      omega
    · have Nc1 : ¬ n ≤ i := fun z => c1 ((nI_leI (a := n) (b := i) (by omega) (by omega)).mpr z)
      refine v_aload_n (am_Dk d_MR_scan (k := 29) rfl) rfl ?_
      refine v_get (am_Dk d_MR_scan (k := 30) rfl) f_MR_89 hr rfl ?_
      refine v_iload_n (am_Dk d_MR_scan (k := 31) rfl) rfl ?_
      refine v_bald (am_Dk d_MR_scan (k := 32) rfl) h2 rfl (vp_in4 (by omega)) ?_
      rw [nI_clamp (n := i) (by omega)]
      refine v_bipush (v := 10) (am_Dk d_MR_scan (k := 33) rfl) (by decide) ?_
      refine v_icmp_eq (tgt := 5) (am_Dk d_MR_scan (k := 34) rfl) (by decide) (fun c2 => ?_) (fun c2 => ?_)
      · have h10 : tb f n i = 10 := e10.mp c2
        exact hA (by rw [← pbF_nl h10]; exact h)
      · have hn10 : ¬ tb f n i = 10 := fun z => c2 (e10.mpr z)
        refine v_iinc (v := nI (i + 1)) (L1 := [(1, .int (nI (i + 1))), (0, .ref 1225)]) (am_Dk d_MR_scan (k := 35) rfl) rfl (nI_1 _) (by decide) rfl ?_
        refine v_goto (tgt := 47) (am_Dk d_MR_scan (k := 36) rfl) (by decide) ?_
        exact ih2 (by rw [pbF, if_pos rfl, decide_eq_true hn10] at h; exact h)
theorem plt_in {g : Nat → Int32} {n m i : Nat} (h : cpB (g i) = true ∨ smB (g i) = true ∨ dgB (g i) = true) : pltF g n (m + 1) i = pltF g n m (i + 1) := by
  rw [pltF]
  by_cases h1 : cpB (g i) = true
  · rw [if_pos h1]
  · rw [if_neg h1]
    by_cases h2 : smB (g i) = true
    · rw [if_pos h2]
    · rw [if_neg h2, if_pos ((h.resolve_left h1).resolve_left h2)]
theorem plt_out {g : Nat → Int32} {n m i : Nat} (h1 : ¬ cpB (g i) = true) (h2 : ¬ smB (g i) = true) (h3 : ¬ dgB (g i) = true) : pltF g n (m + 1) i = i := by
  rw [pltF, if_neg h1, if_neg h2, if_neg h3]
theorem py_in {g : Nat → Int32} {n m i : Nat} (h : syB (g i) = true) : pyF g n (m + 1) i = pyF g n m (i + 1) := by rw [pyF, if_pos h]
theorem py_out {g : Nat → Int32} {n m i : Nat} (h : ¬ syB (g i) = true) : pyF g n (m + 1) i = i := by rw [pyF, if_neg h]
set_option maxRecDepth 20000 in
theorem l_MR_letters (G : am_G) {d nx : Nat} (hd : 4 < d) {M : am_M} {n : Nat} {at9 be tk op le tp pl vd kn rk : Int32} {nu : Int64} {p : Nat} {c : Int32} (hr : M 1225 = some (.inr (12, [.ref 1226, .ref 1227, .ref 1228, .ref 1213, .ref 1220, .ref 1212, .int (nI n), .int at9, .int be, .int tk, .int op, .long nu, .ref 1229, .int le, .ref 1230, .int tp, .int pl, .ref 1231, .int vd, .int kn, .int rk, .ref 1232]))) {f : Nat → Int32} (h2 : M 1212 = some (.inl (0, 4096, .inl f))) (hn : n ≤ 4096) (hb : tbB f) {g0 : Nat → Int32} (hw : M 1229 = some (.inl (0, 4096, .inl g0))) {E : Nat} {Q : am_Qt} (hk : ∀ l g, wpI f n p E l g → tbB g → am_V G m_MR_scan d 0 0 Q 195 [(1, .int (nI E)), (2, .int c), (0, .ref 1225)] [] (am_up (am_up M 1229 (.inl (0, 4096, .inl g))) 1225 (.inr (12, [.ref 1226, .ref 1227, .ref 1228, .ref 1213, .ref 1220, .ref 1212, .int (nI n), .int (nI p), .int be, .int tk, .int op, .long nu, .ref 1229, .int (nI l), .ref 1230, .int tp, .int pl, .ref 1231, .int vd, .int kn, .int rk, .ref 1232]))) nx 0 0) : ∀ m i l g, i + m = n → p ≤ i → wpI f n p i l g → tbB g → pltF (tb f n) n m i = E → am_V G m_MR_scan d 0 0 Q 146 [(1, .int (nI i)), (2, .int c), (0, .ref 1225)] [] (am_up (am_up M 1229 (.inl (0, 4096, .inl g))) 1225 (.inr (12, [.ref 1226, .ref 1227, .ref 1228, .ref 1213, .ref 1220, .ref 1212, .int (nI n), .int (nI p), .int be, .int tk, .int op, .long nu, .ref 1229, .int (nI l), .ref 1230, .int tp, .int pl, .ref 1231, .int vd, .int kn, .int rk, .ref 1232]))) nx 0 0 := by
  intro m
  induction m with
  | zero =>
    intro i l g him hpi hwp hg h
    rw [pltF] at h
    have hie : i = E := by omega
    subst hie
    have hlk : lk f n i = -1 := by rw [lk, if_neg (by omega)]
    refine v_aload_n (am_Dk d_MR_scan (k := 74) rfl) rfl ?_
    refine v_iload_n (am_Dk d_MR_scan (k := 75) rfl) rfl ?_
    have m1 : (am_up (am_up M 1229 (.inl (0, 4096, .inl g))) 1225 (.inr (12, [.ref 1226, .ref 1227, .ref 1228, .ref 1213, .ref 1220, .ref 1212, .int (nI n), .int (nI p), .int be, .int tk, .int op, .long nu, .ref 1229, .int (nI l), .ref 1230, .int tp, .int pl, .ref 1231, .int vd, .int kn, .int rk, .ref 1232]))) 1225 = some (.inr (12, [.ref 1226, .ref 1227, .ref 1228, .ref 1213, .ref 1220, .ref 1212, .int (nI n), .int (nI p), .int be, .int tk, .int op, .long nu, .ref 1229, .int (nI l), .ref 1230, .int tp, .int pl, .ref 1231, .int vd, .int kn, .int rk, .ref 1232])) := am_up_eq _ _ _
    have m2 : (am_up (am_up M 1229 (.inl (0, 4096, .inl g))) 1225 (.inr (12, [.ref 1226, .ref 1227, .ref 1228, .ref 1213, .ref 1220, .ref 1212, .int (nI n), .int (nI p), .int be, .int tk, .int op, .long nu, .ref 1229, .int (nI l), .ref 1230, .int tp, .int pl, .ref 1231, .int vd, .int kn, .int rk, .ref 1232]))) 1212 = some (.inl (0, 4096, .inl f)) := (am_up_ne (show 1212 ≠ 1225 from by decide)).trans ((am_up_ne (show 1212 ≠ 1229 from by decide)).trans (h2))
    refine v_callV (rest := []) (As := [.int (nI i)]) (mc' := 0) (ms' := 0) (am_Dk d_MR_scan (k := 76) rfl) c_MR_148 (Or.inl ⟨_, _, _, _, _, m1, cq_ok12⟩) (t_MR_look G (d := 0) (i := i) (by omega) m1 m2 hn (by omega)) (by omega) (by omega) (by omega) (by simp [Value.category]) rfl (fun v3 M4 n5 h6 => ?_) (fun _ _ _ h6 => ?_)
    rotate_left
    · exact absurd h6.1 (by simp)
    obtain ⟨h6, e7, e8⟩ := h6
    replace e7 := e7.symm
    replace e8 := e8.symm
    subst e7
    subst e8
    cases h6
    show am_V G _ _ _ _ _ 151 [(1, .int (nI i)), (2, .int c), (0, .ref 1225)] [.int (lk f n i)] (am_up (am_up M 1229 (.inl (0, 4096, .inl g))) 1225 (.inr (12, [.ref 1226, .ref 1227, .ref 1228, .ref 1213, .ref 1220, .ref 1212, .int (nI n), .int (nI p), .int be, .int tk, .int op, .long nu, .ref 1229, .int (nI l), .ref 1230, .int tp, .int pl, .ref 1231, .int vd, .int kn, .int rk, .ref 1232]))) nx 0 0
    refine v_callS (rest := []) (As := [.int (lk f n i)]) (mc' := 0) (ms' := 0) (am_Dk d_MR_scan (k := 77) rfl) c_MR_142 (t_MR_small G (d := 0)) (by omega) (by omega) (by omega) (by simp [Value.category]) rfl (fun v9 M10 n11 h12 => ?_) (fun _ _ _ h12 => ?_)
    rotate_left
    · exact absurd h12.1 (by simp)
    obtain ⟨h12, e13, e14⟩ := h12
    replace e13 := e13.symm
    replace e14 := e14.symm
    subst e13
    subst e14
    cases h12
    show am_V G _ _ _ _ _ 154 [(1, .int (nI i)), (2, .int c), (0, .ref 1225)] [.int (bi (smB (lk f n i)))] (am_up (am_up M 1229 (.inl (0, 4096, .inl g))) 1225 (.inr (12, [.ref 1226, .ref 1227, .ref 1228, .ref 1213, .ref 1220, .ref 1212, .int (nI n), .int (nI p), .int be, .int tk, .int op, .long nu, .ref 1229, .int (nI l), .ref 1230, .int tp, .int pl, .ref 1231, .int vd, .int kn, .int rk, .ref 1232]))) nx 0 0
    refine v_if_ne (tgt := 179) (am_Dk d_MR_scan (k := 78) rfl) (by decide) (fun c15 => ?_) (fun c15 => ?_)
    · exact absurd (bi1 c15) (by rw [hlk]; decide)
    · have Nc15 := bi0.mp c15
      refine v_aload_n (am_Dk d_MR_scan (k := 79) rfl) rfl ?_
      refine v_iload_n (am_Dk d_MR_scan (k := 80) rfl) rfl ?_
      refine v_callV (rest := []) (As := [.int (nI i)]) (mc' := 0) (ms' := 0) (am_Dk d_MR_scan (k := 81) rfl) c_MR_148 (Or.inl ⟨_, _, _, _, _, m1, cq_ok12⟩) (t_MR_look G (d := 0) (i := i) (by omega) m1 m2 hn (by omega)) (by omega) (by omega) (by omega) (by simp [Value.category]) rfl (fun v16 M17 n18 h19 => ?_) (fun _ _ _ h19 => ?_)
      rotate_left
      · exact absurd h19.1 (by simp)
      obtain ⟨h19, e20, e21⟩ := h19
      replace e20 := e20.symm
      replace e21 := e21.symm
      subst e20
      subst e21
      cases h19
      show am_V G _ _ _ _ _ 162 [(1, .int (nI i)), (2, .int c), (0, .ref 1225)] [.int (lk f n i)] (am_up (am_up M 1229 (.inl (0, 4096, .inl g))) 1225 (.inr (12, [.ref 1226, .ref 1227, .ref 1228, .ref 1213, .ref 1220, .ref 1212, .int (nI n), .int (nI p), .int be, .int tk, .int op, .long nu, .ref 1229, .int (nI l), .ref 1230, .int tp, .int pl, .ref 1231, .int vd, .int kn, .int rk, .ref 1232]))) nx 0 0
      refine v_callS (rest := []) (As := [.int (lk f n i)]) (mc' := 0) (ms' := 0) (am_Dk d_MR_scan (k := 82) rfl) c_MR_145 (t_MR_great G (d := 0)) (by omega) (by omega) (by omega) (by simp [Value.category]) rfl (fun v22 M23 n24 h25 => ?_) (fun _ _ _ h25 => ?_)
      rotate_left
      · exact absurd h25.1 (by simp)
      obtain ⟨h25, e26, e27⟩ := h25
      replace e26 := e26.symm
      replace e27 := e27.symm
      subst e26
      subst e27
      cases h25
      show am_V G _ _ _ _ _ 165 [(1, .int (nI i)), (2, .int c), (0, .ref 1225)] [.int (bi (cpB (lk f n i)))] (am_up (am_up M 1229 (.inl (0, 4096, .inl g))) 1225 (.inr (12, [.ref 1226, .ref 1227, .ref 1228, .ref 1213, .ref 1220, .ref 1212, .int (nI n), .int (nI p), .int be, .int tk, .int op, .long nu, .ref 1229, .int (nI l), .ref 1230, .int tp, .int pl, .ref 1231, .int vd, .int kn, .int rk, .ref 1232]))) nx 0 0
      refine v_if_ne (tgt := 179) (am_Dk d_MR_scan (k := 83) rfl) (by decide) (fun c28 => ?_) (fun c28 => ?_)
      · exact absurd (bi1 c28) (by rw [hlk]; decide)
      · have Nc28 := bi0.mp c28
        refine v_aload_n (am_Dk d_MR_scan (k := 84) rfl) rfl ?_
        refine v_iload_n (am_Dk d_MR_scan (k := 85) rfl) rfl ?_
        refine v_callV (rest := []) (As := [.int (nI i)]) (mc' := 0) (ms' := 0) (am_Dk d_MR_scan (k := 86) rfl) c_MR_148 (Or.inl ⟨_, _, _, _, _, m1, cq_ok12⟩) (t_MR_look G (d := 0) (i := i) (by omega) m1 m2 hn (by omega)) (by omega) (by omega) (by omega) (by simp [Value.category]) rfl (fun v29 M30 n31 h32 => ?_) (fun _ _ _ h32 => ?_)
        rotate_left
        · exact absurd h32.1 (by simp)
        obtain ⟨h32, e33, e34⟩ := h32
        replace e33 := e33.symm
        replace e34 := e34.symm
        subst e33
        subst e34
        cases h32
        show am_V G _ _ _ _ _ 173 [(1, .int (nI i)), (2, .int c), (0, .ref 1225)] [.int (lk f n i)] (am_up (am_up M 1229 (.inl (0, 4096, .inl g))) 1225 (.inr (12, [.ref 1226, .ref 1227, .ref 1228, .ref 1213, .ref 1220, .ref 1212, .int (nI n), .int (nI p), .int be, .int tk, .int op, .long nu, .ref 1229, .int (nI l), .ref 1230, .int tp, .int pl, .ref 1231, .int vd, .int kn, .int rk, .ref 1232]))) nx 0 0
        refine v_callS (rest := []) (As := [.int (lk f n i)]) (mc' := 0) (ms' := 0) (am_Dk d_MR_scan (k := 87) rfl) c_MR_151 (t_MR_digit G (d := 0)) (by omega) (by omega) (by omega) (by simp [Value.category]) rfl (fun v35 M36 n37 h38 => ?_) (fun _ _ _ h38 => ?_)
        rotate_left
        · exact absurd h38.1 (by simp)
        obtain ⟨h38, e39, e40⟩ := h38
        replace e39 := e39.symm
        replace e40 := e40.symm
        subst e39
        subst e40
        cases h38
        show am_V G _ _ _ _ _ 176 [(1, .int (nI i)), (2, .int c), (0, .ref 1225)] [.int (bi (dgB (lk f n i)))] (am_up (am_up M 1229 (.inl (0, 4096, .inl g))) 1225 (.inr (12, [.ref 1226, .ref 1227, .ref 1228, .ref 1213, .ref 1220, .ref 1212, .int (nI n), .int (nI p), .int be, .int tk, .int op, .long nu, .ref 1229, .int (nI l), .ref 1230, .int tp, .int pl, .ref 1231, .int vd, .int kn, .int rk, .ref 1232]))) nx 0 0
        refine v_if_eq (tgt := 195) (am_Dk d_MR_scan (k := 88) rfl) (by decide) (fun c41 => ?_) (fun c41 => ?_)
        · have Nc41 := bi0.mp c41
          exact hk l g hwp hg
        · exact absurd (bi1 c41) (by rw [hlk]; decide)
  | succ m ih =>
    intro i l g him hpi hwp hg h
    have hin : i < n := by omega
    have hl9 := hwp.1
    refine v_aload_n (am_Dk d_MR_scan (k := 74) rfl) rfl ?_
    refine v_iload_n (am_Dk d_MR_scan (k := 75) rfl) rfl ?_
    have m1 : (am_up (am_up M 1229 (.inl (0, 4096, .inl g))) 1225 (.inr (12, [.ref 1226, .ref 1227, .ref 1228, .ref 1213, .ref 1220, .ref 1212, .int (nI n), .int (nI p), .int be, .int tk, .int op, .long nu, .ref 1229, .int (nI l), .ref 1230, .int tp, .int pl, .ref 1231, .int vd, .int kn, .int rk, .ref 1232]))) 1225 = some (.inr (12, [.ref 1226, .ref 1227, .ref 1228, .ref 1213, .ref 1220, .ref 1212, .int (nI n), .int (nI p), .int be, .int tk, .int op, .long nu, .ref 1229, .int (nI l), .ref 1230, .int tp, .int pl, .ref 1231, .int vd, .int kn, .int rk, .ref 1232])) := am_up_eq _ _ _
    have m2 : (am_up (am_up M 1229 (.inl (0, 4096, .inl g))) 1225 (.inr (12, [.ref 1226, .ref 1227, .ref 1228, .ref 1213, .ref 1220, .ref 1212, .int (nI n), .int (nI p), .int be, .int tk, .int op, .long nu, .ref 1229, .int (nI l), .ref 1230, .int tp, .int pl, .ref 1231, .int vd, .int kn, .int rk, .ref 1232]))) 1212 = some (.inl (0, 4096, .inl f)) := (am_up_ne (show 1212 ≠ 1225 from by decide)).trans ((am_up_ne (show 1212 ≠ 1229 from by decide)).trans (h2))
    refine v_callV (rest := []) (As := [.int (nI i)]) (mc' := 0) (ms' := 0) (am_Dk d_MR_scan (k := 76) rfl) c_MR_148 (Or.inl ⟨_, _, _, _, _, m1, cq_ok12⟩) (t_MR_look G (d := 0) (i := i) (by omega) m1 m2 hn (by omega)) (by omega) (by omega) (by omega) (by simp [Value.category]) rfl (fun v3 M4 n5 h6 => ?_) (fun _ _ _ h6 => ?_)
    rotate_left
    · exact absurd h6.1 (by simp)
    obtain ⟨h6, e7, e8⟩ := h6
    replace e7 := e7.symm
    replace e8 := e8.symm
    subst e7
    subst e8
    cases h6
    show am_V G _ _ _ _ _ 151 [(1, .int (nI i)), (2, .int c), (0, .ref 1225)] [.int (lk f n i)] (am_up (am_up M 1229 (.inl (0, 4096, .inl g))) 1225 (.inr (12, [.ref 1226, .ref 1227, .ref 1228, .ref 1213, .ref 1220, .ref 1212, .int (nI n), .int (nI p), .int be, .int tk, .int op, .long nu, .ref 1229, .int (nI l), .ref 1230, .int tp, .int pl, .ref 1231, .int vd, .int kn, .int rk, .ref 1232]))) nx 0 0
    refine v_callS (rest := []) (As := [.int (lk f n i)]) (mc' := 0) (ms' := 0) (am_Dk d_MR_scan (k := 77) rfl) c_MR_142 (t_MR_small G (d := 0)) (by omega) (by omega) (by omega) (by simp [Value.category]) rfl (fun v9 M10 n11 h12 => ?_) (fun _ _ _ h12 => ?_)
    rotate_left
    · exact absurd h12.1 (by simp)
    obtain ⟨h12, e13, e14⟩ := h12
    replace e13 := e13.symm
    replace e14 := e14.symm
    subst e13
    subst e14
    cases h12
    show am_V G _ _ _ _ _ 154 [(1, .int (nI i)), (2, .int c), (0, .ref 1225)] [.int (bi (smB (lk f n i)))] (am_up (am_up M 1229 (.inl (0, 4096, .inl g))) 1225 (.inr (12, [.ref 1226, .ref 1227, .ref 1228, .ref 1213, .ref 1220, .ref 1212, .int (nI n), .int (nI p), .int be, .int tk, .int op, .long nu, .ref 1229, .int (nI l), .ref 1230, .int tp, .int pl, .ref 1231, .int vd, .int kn, .int rk, .ref 1232]))) nx 0 0
    refine v_if_ne (tgt := 179) (am_Dk d_MR_scan (k := 78) rfl) (by decide) (fun c15 => ?_) (fun c15 => ?_)
    · have t_smB : smB (tb f n i) = true := by rw [← lk_sm hb n i]; exact bi1 c15
      have h127 : (tb f n i).toInt ≤ 127 := by have := of_decide_eq_true t_smB; omega
      have hin9 := (show cpB (tb f n i) = true ∨ smB (tb f n i) = true ∨ dgB (tb f n i) = true from Or.inr (Or.inl t_smB))
      refine v_aload_n (am_Dk d_MR_scan (k := 89) rfl) rfl ?_
      refine v_aload_n (am_Dk d_MR_scan (k := 90) rfl) rfl ?_
      refine v_get (am_Dk d_MR_scan (k := 91) rfl) f_MR_89 m1 rfl ?_
      refine v_iload_n (am_Dk d_MR_scan (k := 92) rfl) rfl ?_
      refine v_bald (am_Dk d_MR_scan (k := 93) rfl) m2 rfl (vp_in4 (by omega)) ?_
      rw [nI_clamp (n := i) (by omega)]
      have m16 : (am_up (am_up M 1229 (.inl (0, 4096, .inl g))) 1225 (.inr (12, [.ref 1226, .ref 1227, .ref 1228, .ref 1213, .ref 1220, .ref 1212, .int (nI n), .int (nI p), .int be, .int tk, .int op, .long nu, .ref 1229, .int (nI l), .ref 1230, .int tp, .int pl, .ref 1231, .int vd, .int kn, .int rk, .ref 1232]))) 1229 = some (.inl (0, 4096, .inl g)) := (am_up_ne (show 1229 ≠ 1225 from by decide)).trans (am_up_eq _ _ _)
      refine v_callV (rest := []) (As := [.int (f (i))]) (mc' := 0) (ms' := 0) (am_Dk d_MR_scan (k := 94) rfl) c_MR_154 (Or.inl ⟨_, _, _, _, _, m1, cq_ok12⟩) (t_MR_letter G (d := 0) (le := 0) (l := l) (by omega) m1 m16 (by omega)) (by omega) (by omega) (by omega) (by simp [Value.category]) rfl (fun v17 M18 n19 h20 => ?_) (fun _ _ _ h20 => ?_)
      rotate_left
      · exact absurd h20.1 (by simp)
      obtain ⟨h20, e21, e22⟩ := h20
      replace e21 := e21.symm
      replace e22 := e22.symm
      subst e21
      subst e22
      cases h20
      rw [lt_nar (hb _)]
      rw [am_uu1 (a := 1229)]
      rw [am_uu1 (a := 1225)]
      show am_V G _ _ _ _ _ 189 [(1, .int (nI i)), (2, .int c), (0, .ref 1225)] [] (am_up (am_up M 1229 (.inl (0, 4096, .inl (upd g l (f (i)))))) 1225 (.inr (12, [.ref 1226, .ref 1227, .ref 1228, .ref 1213, .ref 1220, .ref 1212, .int (nI n), .int (nI p), .int be, .int tk, .int op, .long nu, .ref 1229, .int (nI (l + 1)), .ref 1230, .int tp, .int pl, .ref 1231, .int vd, .int kn, .int rk, .ref 1232]))) nx 0 0
      refine v_iinc (v := nI (i + 1)) (L1 := [(1, .int (nI (i + 1))), (2, .int c), (0, .ref 1225)]) (am_Dk d_MR_scan (k := 95) rfl) rfl (nI_1 _) (by decide) rfl ?_
      refine v_goto (tgt := 146) (am_Dk d_MR_scan (k := 96) rfl) (by decide) ?_
      have htf : tb f n i = f i := (lk_f hb hin h127).symm
      exact ih (i + 1) _ _ (by omega) (by omega) (wpI_1 hwp htf) (tbB_up hg (hb _)) (by rw [plt_in hin9] at h; exact h)
    · have t_smB : ¬ smB (tb f n i) = true := by rw [← lk_sm hb n i]; exact ne_true_of_eq_false (bi0.mp (by first | exact c15 | exact c15))
      refine v_aload_n (am_Dk d_MR_scan (k := 79) rfl) rfl ?_
      refine v_iload_n (am_Dk d_MR_scan (k := 80) rfl) rfl ?_
      refine v_callV (rest := []) (As := [.int (nI i)]) (mc' := 0) (ms' := 0) (am_Dk d_MR_scan (k := 81) rfl) c_MR_148 (Or.inl ⟨_, _, _, _, _, m1, cq_ok12⟩) (t_MR_look G (d := 0) (i := i) (by omega) m1 m2 hn (by omega)) (by omega) (by omega) (by omega) (by simp [Value.category]) rfl (fun v23 M24 n25 h26 => ?_) (fun _ _ _ h26 => ?_)
      rotate_left
      · exact absurd h26.1 (by simp)
      obtain ⟨h26, e27, e28⟩ := h26
      replace e27 := e27.symm
      replace e28 := e28.symm
      subst e27
      subst e28
      cases h26
      show am_V G _ _ _ _ _ 162 [(1, .int (nI i)), (2, .int c), (0, .ref 1225)] [.int (lk f n i)] (am_up (am_up M 1229 (.inl (0, 4096, .inl g))) 1225 (.inr (12, [.ref 1226, .ref 1227, .ref 1228, .ref 1213, .ref 1220, .ref 1212, .int (nI n), .int (nI p), .int be, .int tk, .int op, .long nu, .ref 1229, .int (nI l), .ref 1230, .int tp, .int pl, .ref 1231, .int vd, .int kn, .int rk, .ref 1232]))) nx 0 0
      refine v_callS (rest := []) (As := [.int (lk f n i)]) (mc' := 0) (ms' := 0) (am_Dk d_MR_scan (k := 82) rfl) c_MR_145 (t_MR_great G (d := 0)) (by omega) (by omega) (by omega) (by simp [Value.category]) rfl (fun v29 M30 n31 h32 => ?_) (fun _ _ _ h32 => ?_)
      rotate_left
      · exact absurd h32.1 (by simp)
      obtain ⟨h32, e33, e34⟩ := h32
      replace e33 := e33.symm
      replace e34 := e34.symm
      subst e33
      subst e34
      cases h32
      show am_V G _ _ _ _ _ 165 [(1, .int (nI i)), (2, .int c), (0, .ref 1225)] [.int (bi (cpB (lk f n i)))] (am_up (am_up M 1229 (.inl (0, 4096, .inl g))) 1225 (.inr (12, [.ref 1226, .ref 1227, .ref 1228, .ref 1213, .ref 1220, .ref 1212, .int (nI n), .int (nI p), .int be, .int tk, .int op, .long nu, .ref 1229, .int (nI l), .ref 1230, .int tp, .int pl, .ref 1231, .int vd, .int kn, .int rk, .ref 1232]))) nx 0 0
      refine v_if_ne (tgt := 179) (am_Dk d_MR_scan (k := 83) rfl) (by decide) (fun c35 => ?_) (fun c35 => ?_)
      · have t_cpB : cpB (tb f n i) = true := by rw [← lk_cp hb n i]; exact bi1 c35
        have h127 : (tb f n i).toInt ≤ 127 := by have := of_decide_eq_true t_cpB; omega
        have hin9 := (show cpB (tb f n i) = true ∨ smB (tb f n i) = true ∨ dgB (tb f n i) = true from Or.inl t_cpB)
        refine v_aload_n (am_Dk d_MR_scan (k := 89) rfl) rfl ?_
        refine v_aload_n (am_Dk d_MR_scan (k := 90) rfl) rfl ?_
        refine v_get (am_Dk d_MR_scan (k := 91) rfl) f_MR_89 m1 rfl ?_
        refine v_iload_n (am_Dk d_MR_scan (k := 92) rfl) rfl ?_
        refine v_bald (am_Dk d_MR_scan (k := 93) rfl) m2 rfl (vp_in4 (by omega)) ?_
        rw [nI_clamp (n := i) (by omega)]
        have m36 : (am_up (am_up M 1229 (.inl (0, 4096, .inl g))) 1225 (.inr (12, [.ref 1226, .ref 1227, .ref 1228, .ref 1213, .ref 1220, .ref 1212, .int (nI n), .int (nI p), .int be, .int tk, .int op, .long nu, .ref 1229, .int (nI l), .ref 1230, .int tp, .int pl, .ref 1231, .int vd, .int kn, .int rk, .ref 1232]))) 1229 = some (.inl (0, 4096, .inl g)) := (am_up_ne (show 1229 ≠ 1225 from by decide)).trans (am_up_eq _ _ _)
        refine v_callV (rest := []) (As := [.int (f (i))]) (mc' := 0) (ms' := 0) (am_Dk d_MR_scan (k := 94) rfl) c_MR_154 (Or.inl ⟨_, _, _, _, _, m1, cq_ok12⟩) (t_MR_letter G (d := 0) (le := 0) (l := l) (by omega) m1 m36 (by omega)) (by omega) (by omega) (by omega) (by simp [Value.category]) rfl (fun v37 M38 n39 h40 => ?_) (fun _ _ _ h40 => ?_)
        rotate_left
        · exact absurd h40.1 (by simp)
        obtain ⟨h40, e41, e42⟩ := h40
        replace e41 := e41.symm
        replace e42 := e42.symm
        subst e41
        subst e42
        cases h40
        rw [lt_nar (hb _)]
        rw [am_uu1 (a := 1229)]
        rw [am_uu1 (a := 1225)]
        show am_V G _ _ _ _ _ 189 [(1, .int (nI i)), (2, .int c), (0, .ref 1225)] [] (am_up (am_up M 1229 (.inl (0, 4096, .inl (upd g l (f (i)))))) 1225 (.inr (12, [.ref 1226, .ref 1227, .ref 1228, .ref 1213, .ref 1220, .ref 1212, .int (nI n), .int (nI p), .int be, .int tk, .int op, .long nu, .ref 1229, .int (nI (l + 1)), .ref 1230, .int tp, .int pl, .ref 1231, .int vd, .int kn, .int rk, .ref 1232]))) nx 0 0
        refine v_iinc (v := nI (i + 1)) (L1 := [(1, .int (nI (i + 1))), (2, .int c), (0, .ref 1225)]) (am_Dk d_MR_scan (k := 95) rfl) rfl (nI_1 _) (by decide) rfl ?_
        refine v_goto (tgt := 146) (am_Dk d_MR_scan (k := 96) rfl) (by decide) ?_
        have htf : tb f n i = f i := (lk_f hb hin h127).symm
        exact ih (i + 1) _ _ (by omega) (by omega) (wpI_1 hwp htf) (tbB_up hg (hb _)) (by rw [plt_in hin9] at h; exact h)
      · have t_cpB : ¬ cpB (tb f n i) = true := by rw [← lk_cp hb n i]; exact ne_true_of_eq_false (bi0.mp (by first | exact c35 | exact c35))
        refine v_aload_n (am_Dk d_MR_scan (k := 84) rfl) rfl ?_
        refine v_iload_n (am_Dk d_MR_scan (k := 85) rfl) rfl ?_
        refine v_callV (rest := []) (As := [.int (nI i)]) (mc' := 0) (ms' := 0) (am_Dk d_MR_scan (k := 86) rfl) c_MR_148 (Or.inl ⟨_, _, _, _, _, m1, cq_ok12⟩) (t_MR_look G (d := 0) (i := i) (by omega) m1 m2 hn (by omega)) (by omega) (by omega) (by omega) (by simp [Value.category]) rfl (fun v43 M44 n45 h46 => ?_) (fun _ _ _ h46 => ?_)
        rotate_left
        · exact absurd h46.1 (by simp)
        obtain ⟨h46, e47, e48⟩ := h46
        replace e47 := e47.symm
        replace e48 := e48.symm
        subst e47
        subst e48
        cases h46
        show am_V G _ _ _ _ _ 173 [(1, .int (nI i)), (2, .int c), (0, .ref 1225)] [.int (lk f n i)] (am_up (am_up M 1229 (.inl (0, 4096, .inl g))) 1225 (.inr (12, [.ref 1226, .ref 1227, .ref 1228, .ref 1213, .ref 1220, .ref 1212, .int (nI n), .int (nI p), .int be, .int tk, .int op, .long nu, .ref 1229, .int (nI l), .ref 1230, .int tp, .int pl, .ref 1231, .int vd, .int kn, .int rk, .ref 1232]))) nx 0 0
        refine v_callS (rest := []) (As := [.int (lk f n i)]) (mc' := 0) (ms' := 0) (am_Dk d_MR_scan (k := 87) rfl) c_MR_151 (t_MR_digit G (d := 0)) (by omega) (by omega) (by omega) (by simp [Value.category]) rfl (fun v49 M50 n51 h52 => ?_) (fun _ _ _ h52 => ?_)
        rotate_left
        · exact absurd h52.1 (by simp)
        obtain ⟨h52, e53, e54⟩ := h52
        replace e53 := e53.symm
        replace e54 := e54.symm
        subst e53
        subst e54
        cases h52
        show am_V G _ _ _ _ _ 176 [(1, .int (nI i)), (2, .int c), (0, .ref 1225)] [.int (bi (dgB (lk f n i)))] (am_up (am_up M 1229 (.inl (0, 4096, .inl g))) 1225 (.inr (12, [.ref 1226, .ref 1227, .ref 1228, .ref 1213, .ref 1220, .ref 1212, .int (nI n), .int (nI p), .int be, .int tk, .int op, .long nu, .ref 1229, .int (nI l), .ref 1230, .int tp, .int pl, .ref 1231, .int vd, .int kn, .int rk, .ref 1232]))) nx 0 0
        refine v_if_eq (tgt := 195) (am_Dk d_MR_scan (k := 88) rfl) (by decide) (fun c55 => ?_) (fun c55 => ?_)
        · have t_dgB : ¬ dgB (tb f n i) = true := by rw [← lk_dg hb n i]; exact ne_true_of_eq_false (bi0.mp (by first | exact c55 | exact c55))
          have hie : i = E := by rw [plt_out t_cpB t_smB t_dgB] at h; exact h
          subst hie
          exact hk l g hwp hg
        · have t_dgB : dgB (tb f n i) = true := by rw [← lk_dg hb n i]; exact bi1 c55
          have h127 : (tb f n i).toInt ≤ 127 := by have := of_decide_eq_true t_dgB; omega
          have hin9 := (show cpB (tb f n i) = true ∨ smB (tb f n i) = true ∨ dgB (tb f n i) = true from Or.inr (Or.inr t_dgB))
          refine v_aload_n (am_Dk d_MR_scan (k := 89) rfl) rfl ?_
          refine v_aload_n (am_Dk d_MR_scan (k := 90) rfl) rfl ?_
          refine v_get (am_Dk d_MR_scan (k := 91) rfl) f_MR_89 m1 rfl ?_
          refine v_iload_n (am_Dk d_MR_scan (k := 92) rfl) rfl ?_
          refine v_bald (am_Dk d_MR_scan (k := 93) rfl) m2 rfl (vp_in4 (by omega)) ?_
          rw [nI_clamp (n := i) (by omega)]
          have m56 : (am_up (am_up M 1229 (.inl (0, 4096, .inl g))) 1225 (.inr (12, [.ref 1226, .ref 1227, .ref 1228, .ref 1213, .ref 1220, .ref 1212, .int (nI n), .int (nI p), .int be, .int tk, .int op, .long nu, .ref 1229, .int (nI l), .ref 1230, .int tp, .int pl, .ref 1231, .int vd, .int kn, .int rk, .ref 1232]))) 1229 = some (.inl (0, 4096, .inl g)) := (am_up_ne (show 1229 ≠ 1225 from by decide)).trans (am_up_eq _ _ _)
          refine v_callV (rest := []) (As := [.int (f (i))]) (mc' := 0) (ms' := 0) (am_Dk d_MR_scan (k := 94) rfl) c_MR_154 (Or.inl ⟨_, _, _, _, _, m1, cq_ok12⟩) (t_MR_letter G (d := 0) (le := 0) (l := l) (by omega) m1 m56 (by omega)) (by omega) (by omega) (by omega) (by simp [Value.category]) rfl (fun v57 M58 n59 h60 => ?_) (fun _ _ _ h60 => ?_)
          rotate_left
          · exact absurd h60.1 (by simp)
          obtain ⟨h60, e61, e62⟩ := h60
          replace e61 := e61.symm
          replace e62 := e62.symm
          subst e61
          subst e62
          cases h60
          rw [lt_nar (hb _)]
          rw [am_uu1 (a := 1229)]
          rw [am_uu1 (a := 1225)]
          show am_V G _ _ _ _ _ 189 [(1, .int (nI i)), (2, .int c), (0, .ref 1225)] [] (am_up (am_up M 1229 (.inl (0, 4096, .inl (upd g l (f (i)))))) 1225 (.inr (12, [.ref 1226, .ref 1227, .ref 1228, .ref 1213, .ref 1220, .ref 1212, .int (nI n), .int (nI p), .int be, .int tk, .int op, .long nu, .ref 1229, .int (nI (l + 1)), .ref 1230, .int tp, .int pl, .ref 1231, .int vd, .int kn, .int rk, .ref 1232]))) nx 0 0
          refine v_iinc (v := nI (i + 1)) (L1 := [(1, .int (nI (i + 1))), (2, .int c), (0, .ref 1225)]) (am_Dk d_MR_scan (k := 95) rfl) rfl (nI_1 _) (by decide) rfl ?_
          refine v_goto (tgt := 146) (am_Dk d_MR_scan (k := 96) rfl) (by decide) ?_
          have htf : tb f n i = f i := (lk_f hb hin h127).symm
          exact ih (i + 1) _ _ (by omega) (by omega) (wpI_1 hwp htf) (tbB_up hg (hb _)) (by rw [plt_in hin9] at h; exact h)
set_option maxRecDepth 20000 in
theorem l_MR_syms (G : am_G) {d nx : Nat} (hd : 4 < d) {M : am_M} {n : Nat} {at9 be tk op le tp pl vd kn rk : Int32} {nu : Int64} {p : Nat} {c : Int32} (hr : M 1225 = some (.inr (12, [.ref 1226, .ref 1227, .ref 1228, .ref 1213, .ref 1220, .ref 1212, .int (nI n), .int at9, .int be, .int tk, .int op, .long nu, .ref 1229, .int le, .ref 1230, .int tp, .int pl, .ref 1231, .int vd, .int kn, .int rk, .ref 1232]))) {f : Nat → Int32} (h2 : M 1212 = some (.inl (0, 4096, .inl f))) (hn : n ≤ 4096) (hb : tbB f) {g0 : Nat → Int32} (hw : M 1229 = some (.inl (0, 4096, .inl g0))) {E : Nat} {Q : am_Qt} (hk : ∀ l g, wpI f n p E l g → tbB g → am_V G m_MR_scan d 0 0 Q 276 [(1, .int (nI E)), (2, .int c), (0, .ref 1225)] [] (am_up (am_up M 1229 (.inl (0, 4096, .inl g))) 1225 (.inr (12, [.ref 1226, .ref 1227, .ref 1228, .ref 1213, .ref 1220, .ref 1212, .int (nI n), .int (nI p), .int be, .int tk, .int op, .long nu, .ref 1229, .int (nI l), .ref 1230, .int tp, .int pl, .ref 1231, .int vd, .int kn, .int rk, .ref 1232]))) nx 0 0) : ∀ m i l g, i + m = n → p ≤ i → wpI f n p i l g → tbB g → pyF (tb f n) n m i = E → am_V G m_MR_scan d 0 0 Q 249 [(1, .int (nI i)), (2, .int c), (0, .ref 1225)] [] (am_up (am_up M 1229 (.inl (0, 4096, .inl g))) 1225 (.inr (12, [.ref 1226, .ref 1227, .ref 1228, .ref 1213, .ref 1220, .ref 1212, .int (nI n), .int (nI p), .int be, .int tk, .int op, .long nu, .ref 1229, .int (nI l), .ref 1230, .int tp, .int pl, .ref 1231, .int vd, .int kn, .int rk, .ref 1232]))) nx 0 0 := by
  intro m
  induction m with
  | zero =>
    intro i l g him hpi hwp hg h
    rw [pyF] at h
    have hie : i = E := by omega
    subst hie
    have hlk : lk f n i = -1 := by rw [lk, if_neg (by omega)]
    refine v_aload_n (am_Dk d_MR_scan (k := 122) rfl) rfl ?_
    refine v_iload_n (am_Dk d_MR_scan (k := 123) rfl) rfl ?_
    have m1 : (am_up (am_up M 1229 (.inl (0, 4096, .inl g))) 1225 (.inr (12, [.ref 1226, .ref 1227, .ref 1228, .ref 1213, .ref 1220, .ref 1212, .int (nI n), .int (nI p), .int be, .int tk, .int op, .long nu, .ref 1229, .int (nI l), .ref 1230, .int tp, .int pl, .ref 1231, .int vd, .int kn, .int rk, .ref 1232]))) 1225 = some (.inr (12, [.ref 1226, .ref 1227, .ref 1228, .ref 1213, .ref 1220, .ref 1212, .int (nI n), .int (nI p), .int be, .int tk, .int op, .long nu, .ref 1229, .int (nI l), .ref 1230, .int tp, .int pl, .ref 1231, .int vd, .int kn, .int rk, .ref 1232])) := am_up_eq _ _ _
    have m2 : (am_up (am_up M 1229 (.inl (0, 4096, .inl g))) 1225 (.inr (12, [.ref 1226, .ref 1227, .ref 1228, .ref 1213, .ref 1220, .ref 1212, .int (nI n), .int (nI p), .int be, .int tk, .int op, .long nu, .ref 1229, .int (nI l), .ref 1230, .int tp, .int pl, .ref 1231, .int vd, .int kn, .int rk, .ref 1232]))) 1212 = some (.inl (0, 4096, .inl f)) := (am_up_ne (show 1212 ≠ 1225 from by decide)).trans ((am_up_ne (show 1212 ≠ 1229 from by decide)).trans (h2))
    refine v_callV (rest := []) (As := [.int (nI i)]) (mc' := 0) (ms' := 0) (am_Dk d_MR_scan (k := 124) rfl) c_MR_148 (Or.inl ⟨_, _, _, _, _, m1, cq_ok12⟩) (t_MR_look G (d := 0) (i := i) (by omega) m1 m2 hn (by omega)) (by omega) (by omega) (by omega) (by simp [Value.category]) rfl (fun v3 M4 n5 h6 => ?_) (fun _ _ _ h6 => ?_)
    rotate_left
    · exact absurd h6.1 (by simp)
    obtain ⟨h6, e7, e8⟩ := h6
    replace e7 := e7.symm
    replace e8 := e8.symm
    subst e7
    subst e8
    cases h6
    show am_V G _ _ _ _ _ 254 [(1, .int (nI i)), (2, .int c), (0, .ref 1225)] [.int (lk f n i)] (am_up (am_up M 1229 (.inl (0, 4096, .inl g))) 1225 (.inr (12, [.ref 1226, .ref 1227, .ref 1228, .ref 1213, .ref 1220, .ref 1212, .int (nI n), .int (nI p), .int be, .int tk, .int op, .long nu, .ref 1229, .int (nI l), .ref 1230, .int tp, .int pl, .ref 1231, .int vd, .int kn, .int rk, .ref 1232]))) nx 0 0
    refine v_callS (rest := []) (As := [.int (lk f n i)]) (mc' := 0) (ms' := 0) (am_Dk d_MR_scan (k := 125) rfl) c_MR_168 (t_MR_symbol G (d := 4) (by omega) (lk_le hb _ _)) (by omega) (by omega) (by omega) (by simp [Value.category]) rfl (fun v9 M10 n11 h12 => ?_) (fun _ _ _ h12 => ?_)
    rotate_left
    · exact absurd h12.1 (by simp)
    obtain ⟨h12, e13, e14⟩ := h12
    replace e13 := e13.symm
    replace e14 := e14.symm
    subst e13
    subst e14
    cases h12
    show am_V G _ _ _ _ _ 257 [(1, .int (nI i)), (2, .int c), (0, .ref 1225)] [.int (bi (syB (lk f n i)))] (am_up (am_up M 1229 (.inl (0, 4096, .inl g))) 1225 (.inr (12, [.ref 1226, .ref 1227, .ref 1228, .ref 1213, .ref 1220, .ref 1212, .int (nI n), .int (nI p), .int be, .int tk, .int op, .long nu, .ref 1229, .int (nI l), .ref 1230, .int tp, .int pl, .ref 1231, .int vd, .int kn, .int rk, .ref 1232]))) nx 0 0
    refine v_if_eq (tgt := 276) (am_Dk d_MR_scan (k := 126) rfl) (by decide) (fun c15 => ?_) (fun c15 => ?_)
    · have Nc15 := bi0.mp c15
      exact hk l g hwp hg
    · exact absurd (bi1 c15) (by rw [hlk]; decide)
  | succ m ih =>
    intro i l g him hpi hwp hg h
    have hin : i < n := by omega
    have hl9 := hwp.1
    refine v_aload_n (am_Dk d_MR_scan (k := 122) rfl) rfl ?_
    refine v_iload_n (am_Dk d_MR_scan (k := 123) rfl) rfl ?_
    have m1 : (am_up (am_up M 1229 (.inl (0, 4096, .inl g))) 1225 (.inr (12, [.ref 1226, .ref 1227, .ref 1228, .ref 1213, .ref 1220, .ref 1212, .int (nI n), .int (nI p), .int be, .int tk, .int op, .long nu, .ref 1229, .int (nI l), .ref 1230, .int tp, .int pl, .ref 1231, .int vd, .int kn, .int rk, .ref 1232]))) 1225 = some (.inr (12, [.ref 1226, .ref 1227, .ref 1228, .ref 1213, .ref 1220, .ref 1212, .int (nI n), .int (nI p), .int be, .int tk, .int op, .long nu, .ref 1229, .int (nI l), .ref 1230, .int tp, .int pl, .ref 1231, .int vd, .int kn, .int rk, .ref 1232])) := am_up_eq _ _ _
    have m2 : (am_up (am_up M 1229 (.inl (0, 4096, .inl g))) 1225 (.inr (12, [.ref 1226, .ref 1227, .ref 1228, .ref 1213, .ref 1220, .ref 1212, .int (nI n), .int (nI p), .int be, .int tk, .int op, .long nu, .ref 1229, .int (nI l), .ref 1230, .int tp, .int pl, .ref 1231, .int vd, .int kn, .int rk, .ref 1232]))) 1212 = some (.inl (0, 4096, .inl f)) := (am_up_ne (show 1212 ≠ 1225 from by decide)).trans ((am_up_ne (show 1212 ≠ 1229 from by decide)).trans (h2))
    refine v_callV (rest := []) (As := [.int (nI i)]) (mc' := 0) (ms' := 0) (am_Dk d_MR_scan (k := 124) rfl) c_MR_148 (Or.inl ⟨_, _, _, _, _, m1, cq_ok12⟩) (t_MR_look G (d := 0) (i := i) (by omega) m1 m2 hn (by omega)) (by omega) (by omega) (by omega) (by simp [Value.category]) rfl (fun v3 M4 n5 h6 => ?_) (fun _ _ _ h6 => ?_)
    rotate_left
    · exact absurd h6.1 (by simp)
    obtain ⟨h6, e7, e8⟩ := h6
    replace e7 := e7.symm
    replace e8 := e8.symm
    subst e7
    subst e8
    cases h6
    show am_V G _ _ _ _ _ 254 [(1, .int (nI i)), (2, .int c), (0, .ref 1225)] [.int (lk f n i)] (am_up (am_up M 1229 (.inl (0, 4096, .inl g))) 1225 (.inr (12, [.ref 1226, .ref 1227, .ref 1228, .ref 1213, .ref 1220, .ref 1212, .int (nI n), .int (nI p), .int be, .int tk, .int op, .long nu, .ref 1229, .int (nI l), .ref 1230, .int tp, .int pl, .ref 1231, .int vd, .int kn, .int rk, .ref 1232]))) nx 0 0
    refine v_callS (rest := []) (As := [.int (lk f n i)]) (mc' := 0) (ms' := 0) (am_Dk d_MR_scan (k := 125) rfl) c_MR_168 (t_MR_symbol G (d := 4) (by omega) (lk_le hb _ _)) (by omega) (by omega) (by omega) (by simp [Value.category]) rfl (fun v9 M10 n11 h12 => ?_) (fun _ _ _ h12 => ?_)
    rotate_left
    · exact absurd h12.1 (by simp)
    obtain ⟨h12, e13, e14⟩ := h12
    replace e13 := e13.symm
    replace e14 := e14.symm
    subst e13
    subst e14
    cases h12
    show am_V G _ _ _ _ _ 257 [(1, .int (nI i)), (2, .int c), (0, .ref 1225)] [.int (bi (syB (lk f n i)))] (am_up (am_up M 1229 (.inl (0, 4096, .inl g))) 1225 (.inr (12, [.ref 1226, .ref 1227, .ref 1228, .ref 1213, .ref 1220, .ref 1212, .int (nI n), .int (nI p), .int be, .int tk, .int op, .long nu, .ref 1229, .int (nI l), .ref 1230, .int tp, .int pl, .ref 1231, .int vd, .int kn, .int rk, .ref 1232]))) nx 0 0
    refine v_if_eq (tgt := 276) (am_Dk d_MR_scan (k := 126) rfl) (by decide) (fun c15 => ?_) (fun c15 => ?_)
    · have t_syB : ¬ syB (tb f n i) = true := by rw [← lk_sy hb n i]; exact ne_true_of_eq_false (bi0.mp (by first | exact c15 | exact c15))
      have hie : i = E := by rw [py_out t_syB] at h; exact h
      subst hie
      exact hk l g hwp hg
    · have t_syB : syB (tb f n i) = true := by rw [← lk_sy hb n i]; exact bi1 c15
      have h127 : (tb f n i).toInt ≤ 127 := by have := of_decide_eq_true t_syB; omega
      have hin9 := t_syB
      refine v_aload_n (am_Dk d_MR_scan (k := 127) rfl) rfl ?_
      refine v_aload_n (am_Dk d_MR_scan (k := 128) rfl) rfl ?_
      refine v_get (am_Dk d_MR_scan (k := 129) rfl) f_MR_89 m1 rfl ?_
      refine v_iload_n (am_Dk d_MR_scan (k := 130) rfl) rfl ?_
      refine v_bald (am_Dk d_MR_scan (k := 131) rfl) m2 rfl (vp_in4 (by omega)) ?_
      rw [nI_clamp (n := i) (by omega)]
      have m16 : (am_up (am_up M 1229 (.inl (0, 4096, .inl g))) 1225 (.inr (12, [.ref 1226, .ref 1227, .ref 1228, .ref 1213, .ref 1220, .ref 1212, .int (nI n), .int (nI p), .int be, .int tk, .int op, .long nu, .ref 1229, .int (nI l), .ref 1230, .int tp, .int pl, .ref 1231, .int vd, .int kn, .int rk, .ref 1232]))) 1229 = some (.inl (0, 4096, .inl g)) := (am_up_ne (show 1229 ≠ 1225 from by decide)).trans (am_up_eq _ _ _)
      refine v_callV (rest := []) (As := [.int (f (i))]) (mc' := 0) (ms' := 0) (am_Dk d_MR_scan (k := 132) rfl) c_MR_154 (Or.inl ⟨_, _, _, _, _, m1, cq_ok12⟩) (t_MR_letter G (d := 0) (le := 0) (l := l) (by omega) m1 m16 (by omega)) (by omega) (by omega) (by omega) (by simp [Value.category]) rfl (fun v17 M18 n19 h20 => ?_) (fun _ _ _ h20 => ?_)
      rotate_left
      · exact absurd h20.1 (by simp)
      obtain ⟨h20, e21, e22⟩ := h20
      replace e21 := e21.symm
      replace e22 := e22.symm
      subst e21
      subst e22
      cases h20
      rw [lt_nar (hb _)]
      rw [am_uu1 (a := 1229)]
      rw [am_uu1 (a := 1225)]
      show am_V G _ _ _ _ _ 270 [(1, .int (nI i)), (2, .int c), (0, .ref 1225)] [] (am_up (am_up M 1229 (.inl (0, 4096, .inl (upd g l (f (i)))))) 1225 (.inr (12, [.ref 1226, .ref 1227, .ref 1228, .ref 1213, .ref 1220, .ref 1212, .int (nI n), .int (nI p), .int be, .int tk, .int op, .long nu, .ref 1229, .int (nI (l + 1)), .ref 1230, .int tp, .int pl, .ref 1231, .int vd, .int kn, .int rk, .ref 1232]))) nx 0 0
      refine v_iinc (v := nI (i + 1)) (L1 := [(1, .int (nI (i + 1))), (2, .int c), (0, .ref 1225)]) (am_Dk d_MR_scan (k := 133) rfl) rfl (nI_1 _) (by decide) rfl ?_
      refine v_goto (tgt := 249) (am_Dk d_MR_scan (k := 134) rfl) (by decide) ?_
      have htf : tb f n i = f i := (lk_f hb hin h127).symm
      exact ih (i + 1) _ _ (by omega) (by omega) (wpI_1 hwp htf) (tbB_up hg (hb _)) (by rw [py_in hin9] at h; exact h)
set_option maxRecDepth 20000 in
theorem l_MR_scan78 (G : am_G) {d nx : Nat} (hd : 5 ≤ d) {M : am_M} {n : Nat} {at9 be tk op le tp pl vd kn rk : Int32} {nu : Int64} {p : Nat} (hr : M 1225 = some (.inr (12, [.ref 1226, .ref 1227, .ref 1228, .ref 1213, .ref 1220, .ref 1212, .int (nI n), .int at9, .int be, .int tk, .int op, .long nu, .ref 1229, .int le, .ref 1230, .int tp, .int pl, .ref 1231, .int vd, .int kn, .int rk, .ref 1232]))) {f : Nat → Int32} (h2 : M 1212 = some (.inl (0, 4096, .inl f))) (hn : n ≤ 4096) (hb : tbB f) (hp : p ≤ n) {g0 : Nat → Int32} (hw : M 1229 = some (.inl (0, 4096, .inl g0))) (hg0 : tbB g0) : am_V G m_MR_scan d 0 0 (fun r M1 nx1 => ∃ tk1 nu1 l g, r = .inl none ∧ nx1 = nx ∧ M1 = am_up (am_up M 1229 (.inl (0, 4096, .inl g))) 1225 (.inr (12, [.ref 1226, .ref 1227, .ref 1228, .ref 1213, .ref 1220, .ref 1212, .int (nI n), .int (nI (tokAt f n p).2.1), .int (nI (tokAt f n p).2.2.1), .int tk1, .int op, .long nu1, .ref 1229, .int (nI l), .ref 1230, .int tp, .int pl, .ref 1231, .int vd, .int kn, .int rk, .ref 1232])) ∧ scT f (tokAt f n p) tk1 nu1 l g ∧ tbB g) 78 [(1, .int (nI p)), (0, .ref 1225)] [] M nx 0 0 := by
  by_cases hpl : p < n
  rotate_left
  · refine v_aload_n (am_Dk d_MR_scan (k := 39) rfl) rfl ?_
    refine v_iload_n (am_Dk d_MR_scan (k := 40) rfl) rfl ?_
    refine v_put (am_Dk d_MR_scan (k := 41) rfl) f_MR_116 hr (Nat.le_of_ble_eq_true rfl) rfl rfl ?_
    refine v_aload_n (am_Dk d_MR_scan (k := 42) rfl) rfl ?_
    refine v_iconst (v := 0) (am_Dk d_MR_scan (k := 43) rfl) (by decide) ?_
    have m1 : (am_up M 1225 (.inr (12, [.ref 1226, .ref 1227, .ref 1228, .ref 1213, .ref 1220, .ref 1212, .int (nI n), .int (nI p), .int be, .int tk, .int op, .long nu, .ref 1229, .int le, .ref 1230, .int tp, .int pl, .ref 1231, .int vd, .int kn, .int rk, .ref 1232]))) 1225 = some (.inr (12, [.ref 1226, .ref 1227, .ref 1228, .ref 1213, .ref 1220, .ref 1212, .int (nI n), .int (nI p), .int be, .int tk, .int op, .long nu, .ref 1229, .int le, .ref 1230, .int tp, .int pl, .ref 1231, .int vd, .int kn, .int rk, .ref 1232])) := am_up_eq _ _ _
    refine v_put (am_Dk d_MR_scan (k := 44) rfl) f_MR_139 m1 (Nat.le_of_ble_eq_true rfl) rfl rfl ?_
    rw [am_uu0 (a := 1225)]
    refine v_iload_n (am_Dk d_MR_scan (k := 45) rfl) rfl ?_
    refine v_aload_n (am_Dk d_MR_scan (k := 46) rfl) rfl ?_
    have m2 : (am_up M 1225 (.inr (12, [.ref 1226, .ref 1227, .ref 1228, .ref 1213, .ref 1220, .ref 1212, .int (nI n), .int (nI p), .int be, .int tk, .int op, .long nu, .ref 1229, .int 0, .ref 1230, .int tp, .int pl, .ref 1231, .int vd, .int kn, .int rk, .ref 1232]))) 1225 = some (.inr (12, [.ref 1226, .ref 1227, .ref 1228, .ref 1213, .ref 1220, .ref 1212, .int (nI n), .int (nI p), .int be, .int tk, .int op, .long nu, .ref 1229, .int 0, .ref 1230, .int tp, .int pl, .ref 1231, .int vd, .int kn, .int rk, .ref 1232])) := am_up_eq _ _ _
    refine v_get (am_Dk d_MR_scan (k := 47) rfl) f_MR_92 m2 rfl ?_
    refine v_icmp_ge (tgt := 105) (am_Dk d_MR_scan (k := 48) rfl) (by decide) (fun c3 => ?_) (fun c3 => ?_)
    · have Nc3 := (nI_leI (a := n) (b := p) (by omega) (by omega)).mp c3
      refine v_iconst (v := (-1)) (am_Dk d_MR_scan (k := 54) rfl) (by decide) ?_
      refine v_istore_n (L1 := [(2, .int (-1)), (1, .int (nI p)), (0, .ref 1225)]) (am_Dk d_MR_scan (k := 55) rfl) (by decide) rfl ?_
      refine v_iload_n (am_Dk d_MR_scan (k := 56) rfl) rfl ?_
      refine v_aload_n (am_Dk d_MR_scan (k := 57) rfl) rfl ?_
      refine v_get (am_Dk d_MR_scan (k := 58) rfl) f_MR_92 m2 rfl ?_
      refine v_icmp_ne (tgt := 132) (am_Dk d_MR_scan (k := 59) rfl) (by decide) (fun c4 => ?_) (fun c4 => ?_)
      · exact absurd (show nI p = nI n from by rw [show p = n from by omega]) c4
      · have Nc4 := (nI_eq (a := p) (b := n) (by omega) (by omega)).mp c4
        refine v_aload_n (am_Dk d_MR_scan (k := 60) rfl) rfl ?_
        refine v_bipush (v := 13) (am_Dk d_MR_scan (k := 61) rfl) (by decide) ?_
        refine v_put (am_Dk d_MR_scan (k := 62) rfl) f_MR_123 m2 (Nat.le_of_ble_eq_true rfl) rfl rfl ?_
        rw [am_uu0 (a := 1225)]
        refine v_aload_n (am_Dk d_MR_scan (k := 63) rfl) rfl ?_
        refine v_aload_n (am_Dk d_MR_scan (k := 64) rfl) rfl ?_
        have m5 : (am_up M 1225 (.inr (12, [.ref 1226, .ref 1227, .ref 1228, .ref 1213, .ref 1220, .ref 1212, .int (nI n), .int (nI p), .int be, .int 13, .int op, .long nu, .ref 1229, .int 0, .ref 1230, .int tp, .int pl, .ref 1231, .int vd, .int kn, .int rk, .ref 1232]))) 1225 = some (.inr (12, [.ref 1226, .ref 1227, .ref 1228, .ref 1213, .ref 1220, .ref 1212, .int (nI n), .int (nI p), .int be, .int 13, .int op, .long nu, .ref 1229, .int 0, .ref 1230, .int tp, .int pl, .ref 1231, .int vd, .int kn, .int rk, .ref 1232])) := am_up_eq _ _ _
        refine v_get (am_Dk d_MR_scan (k := 65) rfl) f_MR_92 m5 rfl ?_
        refine v_put (am_Dk d_MR_scan (k := 66) rfl) f_MR_96 m5 (Nat.le_of_ble_eq_true rfl) rfl rfl ?_
        rw [am_uu0 (a := 1225)]
        refine v_goto (tgt := 349) (am_Dk d_MR_scan (k := 67) rfl) (by decide) ?_
        have hpn : p = n := by omega
        have ht : tokAt f n p = (10, p, p, 0, 0) := by rw [tokAt, hpn, show tb f n n = -1 from by rw [tb, if_neg (by omega)], if_neg (by decide), if_neg (by decide), if_neg (by decide), if_neg (by decide), if_neg (by decide), if_neg (fun z => absurd z.1 (by decide)), if_neg (by decide), if_pos rfl]
        rw [ht]
        exact v_return (am_Dk d_MR_scan (k := 174) rfl) rfl (by omega) (by omega) ⟨13, _, 0, g0, rfl, rfl, by rw [am_up_id hw, hpn]; rfl, scT_x (Or.inl ⟨by decide, by decide⟩) (by decide) (by decide) (by decide) (by decide), hg0⟩
    · have Nc3 : ¬ n ≤ p := fun z => c3 ((nI_leI (a := n) (b := p) (by omega) (by omega)).mpr z)
      exfalso
      omega
  have hlf : lk f n p = f p := by rw [lk, if_pos hpl]
  have esm : smB (f p) = smB (tb f n p) := by rw [← hlf]; exact lk_sm hb n p
  have ecp : cpB (f p) = cpB (tb f n p) := by rw [← hlf]; exact lk_cp hb n p
  have edg : dgB (f p) = dgB (tb f n p) := by rw [← hlf]; exact lk_dg hb n p
  have esy : syB (f p) = syB (tb f n p) := by rw [← hlf]; exact lk_sy hb n p
  have e39 : f p = 39 ↔ tb f n p = 39 := by rw [← hlf]; exact lk_c hb n p (by decide)
  have hpr : p ≤ (plt (tb f n) n p) ∧ (plt (tb f n) n p) ≤ n := plt_rng (tb f n) n (n - p) p (by omega)
  have h195 : (cpB (tb f n p) = true ∨ smB (tb f n p) = true) → ∀ l g, wpI f n p (plt (tb f n) n p) l g → tbB g → am_V G m_MR_scan d 0 0 (fun r M1 nx1 => ∃ tk1 nu1 l g, r = .inl none ∧ nx1 = nx ∧ M1 = am_up (am_up M 1229 (.inl (0, 4096, .inl g))) 1225 (.inr (12, [.ref 1226, .ref 1227, .ref 1228, .ref 1213, .ref 1220, .ref 1212, .int (nI n), .int (nI (tokAt f n p).2.1), .int (nI (tokAt f n p).2.2.1), .int tk1, .int op, .long nu1, .ref 1229, .int (nI l), .ref 1230, .int tp, .int pl, .ref 1231, .int vd, .int kn, .int rk, .ref 1232])) ∧ scT f (tokAt f n p) tk1 nu1 l g ∧ tbB g) 195 [(1, .int (nI (plt (tb f n) n p))), (2, .int (f p)), (0, .ref 1225)] [] (am_up (am_up M 1229 (.inl (0, 4096, .inl g))) 1225 (.inr (12, [.ref 1226, .ref 1227, .ref 1228, .ref 1213, .ref 1220, .ref 1212, .int (nI n), .int (nI p), .int be, .int tk, .int op, .long nu, .ref 1229, .int (nI l), .ref 1230, .int tp, .int pl, .ref 1231, .int vd, .int kn, .int rk, .ref 1232]))) nx 0 0 := by
    intro hcs l g hwp hg
    have hl9 := hwp.1
    refine v_aload_n (am_Dk d_MR_scan (k := 97) rfl) rfl ?_
    refine v_iload_n (am_Dk d_MR_scan (k := 98) rfl) rfl ?_
    refine v_callS (rest := [.ref 1225]) (As := [.int (f p)]) (mc' := 0) (ms' := 0) (am_Dk d_MR_scan (k := 99) rfl) c_MR_145 (t_MR_great G (d := 0)) (by omega) (by omega) (by omega) (by simp [Value.category]) rfl (fun v1 M2 n3 h4 => ?_) (fun _ _ _ h4 => ?_)
    rotate_left
    · exact absurd h4.1 (by simp)
    obtain ⟨h4, e5, e6⟩ := h4
    replace e5 := e5.symm
    replace e6 := e6.symm
    subst e5
    subst e6
    cases h4
    show am_V G _ _ _ _ _ 200 [(1, .int (nI (plt (tb f n) n p))), (2, .int (f p)), (0, .ref 1225)] [.int (bi (cpB (f p))), .ref 1225] (am_up (am_up M 1229 (.inl (0, 4096, .inl g))) 1225 (.inr (12, [.ref 1226, .ref 1227, .ref 1228, .ref 1213, .ref 1220, .ref 1212, .int (nI n), .int (nI p), .int be, .int tk, .int op, .long nu, .ref 1229, .int (nI l), .ref 1230, .int tp, .int pl, .ref 1231, .int vd, .int kn, .int rk, .ref 1232]))) nx 0 0
    refine v_if_eq (tgt := 207) (am_Dk d_MR_scan (k := 100) rfl) (by decide) (fun c7 => ?_) (fun c7 => ?_)
    · have hcp : ¬ cpB (tb f n p) = true := by rw [← ecp]; exact ne_true_of_eq_false (bi0.mp c7)
      refine v_iconst (v := 3) (am_Dk d_MR_scan (k := 103) rfl) (by decide) ?_
      refine v_iload_n (am_Dk d_MR_scan (k := 104) rfl) rfl ?_
      have m8 : (am_up (am_up M 1229 (.inl (0, 4096, .inl g))) 1225 (.inr (12, [.ref 1226, .ref 1227, .ref 1228, .ref 1213, .ref 1220, .ref 1212, .int (nI n), .int (nI p), .int be, .int tk, .int op, .long nu, .ref 1229, .int (nI l), .ref 1230, .int tp, .int pl, .ref 1231, .int vd, .int kn, .int rk, .ref 1232]))) 1225 = some (.inr (12, [.ref 1226, .ref 1227, .ref 1228, .ref 1213, .ref 1220, .ref 1212, .int (nI n), .int (nI p), .int be, .int tk, .int op, .long nu, .ref 1229, .int (nI l), .ref 1230, .int tp, .int pl, .ref 1231, .int vd, .int kn, .int rk, .ref 1232])) := am_up_eq _ _ _
      refine v_callV (rest := []) (As := [.int 3, .int (nI (plt (tb f n) n p))]) (mc' := 0) (ms' := 0) (am_Dk d_MR_scan (k := 105) rfl) c_MR_158 (Or.inl ⟨_, _, _, _, _, m8, cq_ok12⟩) (t_MR_take G (d := 0) (by omega) m8) (by omega) (by omega) (by omega) (by simp [Value.category]) rfl (fun v9 M10 n11 h12 => ?_) (fun _ _ _ h12 => ?_)
      rotate_left
      · exact absurd h12.1 (by simp)
      obtain ⟨h12, e13, e14⟩ := h12
      replace e13 := e13.symm
      replace e14 := e14.symm
      subst e13
      subst e14
      cases h12
      rw [am_uu0 (a := 1225)]
      show am_V G _ _ _ _ _ 212 [(1, .int (nI (plt (tb f n) n p))), (2, .int (f p)), (0, .ref 1225)] [] (am_up (am_up M 1229 (.inl (0, 4096, .inl g))) 1225 (.inr (12, [.ref 1226, .ref 1227, .ref 1228, .ref 1213, .ref 1220, .ref 1212, .int (nI n), .int (nI p), .int (nI (plt (tb f n) n p)), .int 3, .int op, .long nu, .ref 1229, .int (nI l), .ref 1230, .int tp, .int pl, .ref 1231, .int vd, .int kn, .int rk, .ref 1232]))) nx 0 0
      refine v_goto (tgt := 349) (am_Dk d_MR_scan (k := 106) rfl) (by decide) ?_
      have hsm := hcs.resolve_left hcp
      have hdg : ¬ dgB (tb f n p) = true := by have := of_decide_eq_true hsm; rw [dgB, decide_eq_true_iff]; omega
      have ht : tokAt f n p = (2, p, (plt (tb f n) n p), 0, spl f n p (plt (tb f n) n p)) := by rw [tokAt, if_neg hcp, if_neg hdg, if_pos hsm]
      rw [ht]
      exact v_return (am_Dk d_MR_scan (k := 174) rfl) rfl (by omega) (by omega) ⟨_, _, l, g, rfl, rfl, rfl, scT_2 (by omega) (by omega) (wpI_e hwp), hg⟩
    · have hcp : cpB (tb f n p) = true := by rw [← ecp]; exact bi1 c7
      refine v_iconst (v := 1) (am_Dk d_MR_scan (k := 101) rfl) (by decide) ?_
      refine v_goto (tgt := 208) (am_Dk d_MR_scan (k := 102) rfl) (by decide) ?_
      refine v_iload_n (am_Dk d_MR_scan (k := 104) rfl) rfl ?_
      have m15 : (am_up (am_up M 1229 (.inl (0, 4096, .inl g))) 1225 (.inr (12, [.ref 1226, .ref 1227, .ref 1228, .ref 1213, .ref 1220, .ref 1212, .int (nI n), .int (nI p), .int be, .int tk, .int op, .long nu, .ref 1229, .int (nI l), .ref 1230, .int tp, .int pl, .ref 1231, .int vd, .int kn, .int rk, .ref 1232]))) 1225 = some (.inr (12, [.ref 1226, .ref 1227, .ref 1228, .ref 1213, .ref 1220, .ref 1212, .int (nI n), .int (nI p), .int be, .int tk, .int op, .long nu, .ref 1229, .int (nI l), .ref 1230, .int tp, .int pl, .ref 1231, .int vd, .int kn, .int rk, .ref 1232])) := am_up_eq _ _ _
      refine v_callV (rest := []) (As := [.int 1, .int (nI (plt (tb f n) n p))]) (mc' := 0) (ms' := 0) (am_Dk d_MR_scan (k := 105) rfl) c_MR_158 (Or.inl ⟨_, _, _, _, _, m15, cq_ok12⟩) (t_MR_take G (d := 0) (by omega) m15) (by omega) (by omega) (by omega) (by simp [Value.category]) rfl (fun v16 M17 n18 h19 => ?_) (fun _ _ _ h19 => ?_)
      rotate_left
      · exact absurd h19.1 (by simp)
      obtain ⟨h19, e20, e21⟩ := h19
      replace e20 := e20.symm
      replace e21 := e21.symm
      subst e20
      subst e21
      cases h19
      rw [am_uu0 (a := 1225)]
      show am_V G _ _ _ _ _ 212 [(1, .int (nI (plt (tb f n) n p))), (2, .int (f p)), (0, .ref 1225)] [] (am_up (am_up M 1229 (.inl (0, 4096, .inl g))) 1225 (.inr (12, [.ref 1226, .ref 1227, .ref 1228, .ref 1213, .ref 1220, .ref 1212, .int (nI n), .int (nI p), .int (nI (plt (tb f n) n p)), .int 1, .int op, .long nu, .ref 1229, .int (nI l), .ref 1230, .int tp, .int pl, .ref 1231, .int vd, .int kn, .int rk, .ref 1232]))) nx 0 0
      refine v_goto (tgt := 349) (am_Dk d_MR_scan (k := 106) rfl) (by decide) ?_
      have ht : tokAt f n p = (0, p, (plt (tb f n) n p), 0, 0) := by rw [tokAt, if_pos hcp]
      rw [ht]
      exact v_return (am_Dk d_MR_scan (k := 174) rfl) rfl (by omega) (by omega) ⟨_, _, l, g, rfl, rfl, rfl, scT_0 (by omega) hwp.1 (fun i hi => (hwp.2 i hi).1), hg⟩
  have hyr : p + 1 ≤ (py (tb f n) n (p + 1)) ∧ (py (tb f n) n (p + 1)) ≤ n := py_rng (tb f n) n (n - (p + 1)) (p + 1) (by omega)
  have h276 : ¬ cpB (tb f n p) = true → ¬ dgB (tb f n p) = true → ¬ smB (tb f n p) = true → ¬ tb f n p = 39 → syB (tb f n p) = true → ∀ l g, wpI f n p (py (tb f n) n (p + 1)) l g → tbB g → am_V G m_MR_scan d 0 0 (fun r M1 nx1 => ∃ tk1 nu1 l g, r = .inl none ∧ nx1 = nx ∧ M1 = am_up (am_up M 1229 (.inl (0, 4096, .inl g))) 1225 (.inr (12, [.ref 1226, .ref 1227, .ref 1228, .ref 1213, .ref 1220, .ref 1212, .int (nI n), .int (nI (tokAt f n p).2.1), .int (nI (tokAt f n p).2.2.1), .int tk1, .int op, .long nu1, .ref 1229, .int (nI l), .ref 1230, .int tp, .int pl, .ref 1231, .int vd, .int kn, .int rk, .ref 1232])) ∧ scT f (tokAt f n p) tk1 nu1 l g ∧ tbB g) 276 [(1, .int (nI (py (tb f n) n (p + 1)))), (2, .int (f p)), (0, .ref 1225)] [] (am_up (am_up M 1229 (.inl (0, 4096, .inl g))) 1225 (.inr (12, [.ref 1226, .ref 1227, .ref 1228, .ref 1213, .ref 1220, .ref 1212, .int (nI n), .int (nI p), .int be, .int tk, .int op, .long nu, .ref 1229, .int (nI l), .ref 1230, .int tp, .int pl, .ref 1231, .int vd, .int kn, .int rk, .ref 1232]))) nx 0 0 := by
    intro n_cp n_dg n_sm n_39 hsy l g hwp hg
    have hl9 := hwp.1
    have e46 : f p = 46 ↔ tb f n p = 46 := by rw [← hlf]; exact lk_c hb n p (by decide)
    have hb37 : ∀ j, j < n → (f j = 37 ↔ tb f n j = 37) := fun j hj => by have := lk_c hb n j (c := 37) (by decide); rw [lk, if_pos hj] at this; exact this
    have hbbl : ∀ j, j < n → blB (f j) = blB (tb f n j) := fun j hj => by have := lk_bl hb n j; rw [lk, if_pos hj] at this; exact this
    refine v_aload_n (am_Dk d_MR_scan (k := 135) rfl) rfl ?_
    have m1 : (am_up (am_up M 1229 (.inl (0, 4096, .inl g))) 1225 (.inr (12, [.ref 1226, .ref 1227, .ref 1228, .ref 1213, .ref 1220, .ref 1212, .int (nI n), .int (nI p), .int be, .int tk, .int op, .long nu, .ref 1229, .int (nI l), .ref 1230, .int tp, .int pl, .ref 1231, .int vd, .int kn, .int rk, .ref 1232]))) 1225 = some (.inr (12, [.ref 1226, .ref 1227, .ref 1228, .ref 1213, .ref 1220, .ref 1212, .int (nI n), .int (nI p), .int be, .int tk, .int op, .long nu, .ref 1229, .int (nI l), .ref 1230, .int tp, .int pl, .ref 1231, .int vd, .int kn, .int rk, .ref 1232])) := am_up_eq _ _ _
    refine v_get (am_Dk d_MR_scan (k := 136) rfl) f_MR_139 m1 rfl ?_
    refine v_iconst (v := 1) (am_Dk d_MR_scan (k := 137) rfl) (by decide) ?_
    refine v_icmp_ne (tgt := 325) (am_Dk d_MR_scan (k := 138) rfl) (by decide) (fun c2 => ?_) (fun c2 => ?_)
    · have Nc2 : ¬ l = 1 := fun z => c2 ((nI_eq (a := l) (b := 1) (by omega) (by omega)).mpr z)
      have hC : ¬ ((py (tb f n) n (p + 1)) = p + 1 ∧ tb f n p = 46 ∧ (tb f n (py (tb f n) n (p + 1)) = -1 ∨ tb f n (py (tb f n) n (p + 1)) = 37 ∨ blB (tb f n (py (tb f n) n (p + 1))) = true)) := fun z => by have := z.1; omega
      refine v_iconst (v := 0) (am_Dk d_MR_scan (k := 160) rfl) (by decide) ?_
      refine v_istore_n (L1 := [(3, .int 0), (1, .int (nI (py (tb f n) n (p + 1)))), (2, .int (f p)), (0, .ref 1225)]) (am_Dk d_MR_scan (k := 161) rfl) (by decide) rfl ?_
      refine v_aload_n (am_Dk d_MR_scan (k := 162) rfl) rfl ?_
      refine v_iload_n (am_Dk d_MR_scan (k := 163) rfl) rfl ?_
      refine v_if_eq (tgt := 336) (am_Dk d_MR_scan (k := 164) rfl) (by decide) (fun c3 => ?_) (fun c3 => ?_)
      · have Nc3 := (nI_eq (a := 0) (b := 0) (by omega) (by omega)).mp c3
        refine v_iconst (v := 3) (am_Dk d_MR_scan (k := 167) rfl) (by decide) ?_
        refine v_iload_n (am_Dk d_MR_scan (k := 168) rfl) rfl ?_
        refine v_callV (rest := []) (As := [.int 3, .int (nI (py (tb f n) n (p + 1)))]) (mc' := 0) (ms' := 0) (am_Dk d_MR_scan (k := 169) rfl) c_MR_158 (Or.inl ⟨_, _, _, _, _, m1, cq_ok12⟩) (t_MR_take G (d := 0) (by omega) m1) (by omega) (by omega) (by omega) (by simp [Value.category]) rfl (fun v4 M5 n6 h7 => ?_) (fun _ _ _ h7 => ?_)
        rotate_left
        · exact absurd h7.1 (by simp)
        obtain ⟨h7, e8, e9⟩ := h7
        replace e8 := e8.symm
        replace e9 := e9.symm
        subst e8
        subst e9
        cases h7
        rw [am_uu0 (a := 1225)]
        show am_V G _ _ _ _ _ 341 [(3, .int 0), (1, .int (nI (py (tb f n) n (p + 1)))), (2, .int (f p)), (0, .ref 1225)] [] (am_up (am_up M 1229 (.inl (0, 4096, .inl g))) 1225 (.inr (12, [.ref 1226, .ref 1227, .ref 1228, .ref 1213, .ref 1220, .ref 1212, .int (nI n), .int (nI p), .int (nI (py (tb f n) n (p + 1))), .int 3, .int op, .long nu, .ref 1229, .int (nI l), .ref 1230, .int tp, .int pl, .ref 1231, .int vd, .int kn, .int rk, .ref 1232]))) nx 0 0
        refine v_goto (tgt := 349) (am_Dk d_MR_scan (k := 170) rfl) (by decide) ?_
        have ht : tokAt f n p = (2, p, (py (tb f n) n (p + 1)), 0, spl f n p (py (tb f n) n (p + 1))) := by rw [tokAt, if_neg n_cp, if_neg n_dg, if_neg n_sm, if_neg n_39, if_pos hsy, if_neg hC]
        rw [ht]
        exact v_return (am_Dk d_MR_scan (k := 174) rfl) rfl (by omega) (by omega) ⟨_, _, l, g, rfl, rfl, rfl, scT_2 (by omega) (by omega) (wpI_e hwp), hg⟩
      · exact absurd (by decide) c3
    · have Nc2 := (nI_eq (a := l) (b := 1) (by omega) (by omega)).mp c2
      have hl1 : (py (tb f n) n (p + 1)) = p + 1 := by omega
      refine v_iload_n (am_Dk d_MR_scan (k := 139) rfl) rfl ?_
      refine v_bipush (v := 46) (am_Dk d_MR_scan (k := 140) rfl) (by decide) ?_
      refine v_icmp_ne (tgt := 325) (am_Dk d_MR_scan (k := 141) rfl) (by decide) (fun c10 => ?_) (fun c10 => ?_)
      · have hC : ¬ ((py (tb f n) n (p + 1)) = p + 1 ∧ tb f n p = 46 ∧ (tb f n (py (tb f n) n (p + 1)) = -1 ∨ tb f n (py (tb f n) n (p + 1)) = 37 ∨ blB (tb f n (py (tb f n) n (p + 1))) = true)) := fun z => c10 (e46.mpr z.2.1)
        refine v_iconst (v := 0) (am_Dk d_MR_scan (k := 160) rfl) (by decide) ?_
        refine v_istore_n (L1 := [(3, .int 0), (1, .int (nI (py (tb f n) n (p + 1)))), (2, .int (f p)), (0, .ref 1225)]) (am_Dk d_MR_scan (k := 161) rfl) (by decide) rfl ?_
        refine v_aload_n (am_Dk d_MR_scan (k := 162) rfl) rfl ?_
        refine v_iload_n (am_Dk d_MR_scan (k := 163) rfl) rfl ?_
        refine v_if_eq (tgt := 336) (am_Dk d_MR_scan (k := 164) rfl) (by decide) (fun c11 => ?_) (fun c11 => ?_)
        · have Nc11 := (nI_eq (a := 0) (b := 0) (by omega) (by omega)).mp c11
          refine v_iconst (v := 3) (am_Dk d_MR_scan (k := 167) rfl) (by decide) ?_
          refine v_iload_n (am_Dk d_MR_scan (k := 168) rfl) rfl ?_
          refine v_callV (rest := []) (As := [.int 3, .int (nI (py (tb f n) n (p + 1)))]) (mc' := 0) (ms' := 0) (am_Dk d_MR_scan (k := 169) rfl) c_MR_158 (Or.inl ⟨_, _, _, _, _, m1, cq_ok12⟩) (t_MR_take G (d := 0) (by omega) m1) (by omega) (by omega) (by omega) (by simp [Value.category]) rfl (fun v12 M13 n14 h15 => ?_) (fun _ _ _ h15 => ?_)
          rotate_left
          · exact absurd h15.1 (by simp)
          obtain ⟨h15, e16, e17⟩ := h15
          replace e16 := e16.symm
          replace e17 := e17.symm
          subst e16
          subst e17
          cases h15
          rw [am_uu0 (a := 1225)]
          show am_V G _ _ _ _ _ 341 [(3, .int 0), (1, .int (nI (py (tb f n) n (p + 1)))), (2, .int (f p)), (0, .ref 1225)] [] (am_up (am_up M 1229 (.inl (0, 4096, .inl g))) 1225 (.inr (12, [.ref 1226, .ref 1227, .ref 1228, .ref 1213, .ref 1220, .ref 1212, .int (nI n), .int (nI p), .int (nI (py (tb f n) n (p + 1))), .int 3, .int op, .long nu, .ref 1229, .int (nI l), .ref 1230, .int tp, .int pl, .ref 1231, .int vd, .int kn, .int rk, .ref 1232]))) nx 0 0
          refine v_goto (tgt := 349) (am_Dk d_MR_scan (k := 170) rfl) (by decide) ?_
          have ht : tokAt f n p = (2, p, (py (tb f n) n (p + 1)), 0, spl f n p (py (tb f n) n (p + 1))) := by rw [tokAt, if_neg n_cp, if_neg n_dg, if_neg n_sm, if_neg n_39, if_pos hsy, if_neg hC]
          rw [ht]
          exact v_return (am_Dk d_MR_scan (k := 174) rfl) rfl (by omega) (by omega) ⟨_, _, l, g, rfl, rfl, rfl, scT_2 (by omega) (by omega) (wpI_e hwp), hg⟩
        · exact absurd (by decide) c11
      · have h46 : tb f n p = 46 := e46.mp (c10)
        refine v_iload_n (am_Dk d_MR_scan (k := 142) rfl) rfl ?_
        refine v_aload_n (am_Dk d_MR_scan (k := 143) rfl) rfl ?_
        refine v_get (am_Dk d_MR_scan (k := 144) rfl) f_MR_92 m1 rfl ?_
        refine v_icmp_eq (tgt := 321) (am_Dk d_MR_scan (k := 145) rfl) (by decide) (fun c18 => ?_) (fun c18 => ?_)
        · have Nc18 := (nI_eq (a := py (tb f n) n (p + 1)) (b := n) (by omega) (by omega)).mp c18
          have hC : ((py (tb f n) n (p + 1)) = p + 1 ∧ tb f n p = 46 ∧ (tb f n (py (tb f n) n (p + 1)) = -1 ∨ tb f n (py (tb f n) n (p + 1)) = 37 ∨ blB (tb f n (py (tb f n) n (p + 1))) = true)) := ⟨hl1, h46, Or.inl (by rw [tb, if_neg (by omega)])⟩
          refine v_iconst (v := 1) (am_Dk d_MR_scan (k := 158) rfl) (by decide) ?_
          refine v_goto (tgt := 326) (am_Dk d_MR_scan (k := 159) rfl) (by decide) ?_
          refine v_istore_n (L1 := [(3, .int 1), (1, .int (nI (py (tb f n) n (p + 1)))), (2, .int (f p)), (0, .ref 1225)]) (am_Dk d_MR_scan (k := 161) rfl) (by decide) rfl ?_
          refine v_aload_n (am_Dk d_MR_scan (k := 162) rfl) rfl ?_
          refine v_iload_n (am_Dk d_MR_scan (k := 163) rfl) rfl ?_
          refine v_if_eq (tgt := 336) (am_Dk d_MR_scan (k := 164) rfl) (by decide) (fun c19 => ?_) (fun c19 => ?_)
          · exact absurd c19 (by decide)
          · have Nc19 : ¬ 1 = 0 := fun z => c19 ((nI_eq (a := 1) (b := 0) (by omega) (by omega)).mpr z)
            refine v_iconst (v := 0) (am_Dk d_MR_scan (k := 165) rfl) (by decide) ?_
            refine v_goto (tgt := 337) (am_Dk d_MR_scan (k := 166) rfl) (by decide) ?_
            refine v_iload_n (am_Dk d_MR_scan (k := 168) rfl) rfl ?_
            refine v_callV (rest := []) (As := [.int 0, .int (nI (py (tb f n) n (p + 1)))]) (mc' := 0) (ms' := 0) (am_Dk d_MR_scan (k := 169) rfl) c_MR_158 (Or.inl ⟨_, _, _, _, _, m1, cq_ok12⟩) (t_MR_take G (d := 0) (by omega) m1) (by omega) (by omega) (by omega) (by simp [Value.category]) rfl (fun v20 M21 n22 h23 => ?_) (fun _ _ _ h23 => ?_)
            rotate_left
            · exact absurd h23.1 (by simp)
            obtain ⟨h23, e24, e25⟩ := h23
            replace e24 := e24.symm
            replace e25 := e25.symm
            subst e24
            subst e25
            cases h23
            rw [am_uu0 (a := 1225)]
            show am_V G _ _ _ _ _ 341 [(3, .int 1), (1, .int (nI (py (tb f n) n (p + 1)))), (2, .int (f p)), (0, .ref 1225)] [] (am_up (am_up M 1229 (.inl (0, 4096, .inl g))) 1225 (.inr (12, [.ref 1226, .ref 1227, .ref 1228, .ref 1213, .ref 1220, .ref 1212, .int (nI n), .int (nI p), .int (nI (py (tb f n) n (p + 1))), .int 0, .int op, .long nu, .ref 1229, .int (nI l), .ref 1230, .int tp, .int pl, .ref 1231, .int vd, .int kn, .int rk, .ref 1232]))) nx 0 0
            refine v_goto (tgt := 349) (am_Dk d_MR_scan (k := 170) rfl) (by decide) ?_
            have ht : tokAt f n p = (9, p, (py (tb f n) n (p + 1)), 0, 0) := by rw [tokAt, if_neg n_cp, if_neg n_dg, if_neg n_sm, if_neg n_39, if_pos hsy, if_pos hC]
            rw [ht]
            exact v_return (am_Dk d_MR_scan (k := 174) rfl) rfl (by omega) (by omega) ⟨_, _, l, g, rfl, rfl, rfl, scT_x (Or.inl ⟨by decide, by decide⟩) (by decide) (by decide) (by decide) (by omega), hg⟩
        · have Nc18 : ¬ (py (tb f n) n (p + 1)) = n := fun z => c18 ((nI_eq (a := py (tb f n) n (p + 1)) (b := n) (by omega) (by omega)).mpr z)
          have hyn : (py (tb f n) n (p + 1)) < n := by omega
          refine v_aload_n (am_Dk d_MR_scan (k := 146) rfl) rfl ?_
          refine v_get (am_Dk d_MR_scan (k := 147) rfl) f_MR_89 m1 rfl ?_
          refine v_iload_n (am_Dk d_MR_scan (k := 148) rfl) rfl ?_
          have m26 : (am_up (am_up M 1229 (.inl (0, 4096, .inl g))) 1225 (.inr (12, [.ref 1226, .ref 1227, .ref 1228, .ref 1213, .ref 1220, .ref 1212, .int (nI n), .int (nI p), .int be, .int tk, .int op, .long nu, .ref 1229, .int (nI l), .ref 1230, .int tp, .int pl, .ref 1231, .int vd, .int kn, .int rk, .ref 1232]))) 1212 = some (.inl (0, 4096, .inl f)) := (am_up_ne (show 1212 ≠ 1225 from by decide)).trans ((am_up_ne (show 1212 ≠ 1229 from by decide)).trans (h2))
          refine v_bald (am_Dk d_MR_scan (k := 149) rfl) m26 rfl (vp_in4 (by omega)) ?_
          rw [nI_clamp (n := py (tb f n) n (p + 1)) (by omega)]
          refine v_callS (rest := []) (As := [.int (f (py (tb f n) n (p + 1)))]) (mc' := 0) (ms' := 0) (am_Dk d_MR_scan (k := 150) rfl) c_MR_135 (t_MR_blank G (d := 0)) (by omega) (by omega) (by omega) (by simp [Value.category]) rfl (fun v27 M28 n29 h30 => ?_) (fun _ _ _ h30 => ?_)
          rotate_left
          · exact absurd h30.1 (by simp)
          obtain ⟨h30, e31, e32⟩ := h30
          replace e31 := e31.symm
          replace e32 := e32.symm
          subst e31
          subst e32
          cases h30
          show am_V G _ _ _ _ _ 307 [(1, .int (nI (py (tb f n) n (p + 1)))), (2, .int (f p)), (0, .ref 1225)] [.int (bi (blB (f (py (tb f n) n (p + 1)))))] (am_up (am_up M 1229 (.inl (0, 4096, .inl g))) 1225 (.inr (12, [.ref 1226, .ref 1227, .ref 1228, .ref 1213, .ref 1220, .ref 1212, .int (nI n), .int (nI p), .int be, .int tk, .int op, .long nu, .ref 1229, .int (nI l), .ref 1230, .int tp, .int pl, .ref 1231, .int vd, .int kn, .int rk, .ref 1232]))) nx 0 0
          refine v_if_ne (tgt := 321) (am_Dk d_MR_scan (k := 151) rfl) (by decide) (fun c33 => ?_) (fun c33 => ?_)
          · have hC : ((py (tb f n) n (p + 1)) = p + 1 ∧ tb f n p = 46 ∧ (tb f n (py (tb f n) n (p + 1)) = -1 ∨ tb f n (py (tb f n) n (p + 1)) = 37 ∨ blB (tb f n (py (tb f n) n (p + 1))) = true)) := ⟨hl1, h46, Or.inr (Or.inr (by rw [← hbbl _ hyn]; exact bi1 c33))⟩
            refine v_iconst (v := 1) (am_Dk d_MR_scan (k := 158) rfl) (by decide) ?_
            refine v_goto (tgt := 326) (am_Dk d_MR_scan (k := 159) rfl) (by decide) ?_
            refine v_istore_n (L1 := [(3, .int 1), (1, .int (nI (py (tb f n) n (p + 1)))), (2, .int (f p)), (0, .ref 1225)]) (am_Dk d_MR_scan (k := 161) rfl) (by decide) rfl ?_
            refine v_aload_n (am_Dk d_MR_scan (k := 162) rfl) rfl ?_
            refine v_iload_n (am_Dk d_MR_scan (k := 163) rfl) rfl ?_
            refine v_if_eq (tgt := 336) (am_Dk d_MR_scan (k := 164) rfl) (by decide) (fun c34 => ?_) (fun c34 => ?_)
            · exact absurd c34 (by decide)
            · have Nc34 : ¬ 1 = 0 := fun z => c34 ((nI_eq (a := 1) (b := 0) (by omega) (by omega)).mpr z)
              refine v_iconst (v := 0) (am_Dk d_MR_scan (k := 165) rfl) (by decide) ?_
              refine v_goto (tgt := 337) (am_Dk d_MR_scan (k := 166) rfl) (by decide) ?_
              refine v_iload_n (am_Dk d_MR_scan (k := 168) rfl) rfl ?_
              refine v_callV (rest := []) (As := [.int 0, .int (nI (py (tb f n) n (p + 1)))]) (mc' := 0) (ms' := 0) (am_Dk d_MR_scan (k := 169) rfl) c_MR_158 (Or.inl ⟨_, _, _, _, _, m1, cq_ok12⟩) (t_MR_take G (d := 0) (by omega) m1) (by omega) (by omega) (by omega) (by simp [Value.category]) rfl (fun v35 M36 n37 h38 => ?_) (fun _ _ _ h38 => ?_)
              rotate_left
              · exact absurd h38.1 (by simp)
              obtain ⟨h38, e39, e40⟩ := h38
              replace e39 := e39.symm
              replace e40 := e40.symm
              subst e39
              subst e40
              cases h38
              rw [am_uu0 (a := 1225)]
              show am_V G _ _ _ _ _ 341 [(3, .int 1), (1, .int (nI (py (tb f n) n (p + 1)))), (2, .int (f p)), (0, .ref 1225)] [] (am_up (am_up M 1229 (.inl (0, 4096, .inl g))) 1225 (.inr (12, [.ref 1226, .ref 1227, .ref 1228, .ref 1213, .ref 1220, .ref 1212, .int (nI n), .int (nI p), .int (nI (py (tb f n) n (p + 1))), .int 0, .int op, .long nu, .ref 1229, .int (nI l), .ref 1230, .int tp, .int pl, .ref 1231, .int vd, .int kn, .int rk, .ref 1232]))) nx 0 0
              refine v_goto (tgt := 349) (am_Dk d_MR_scan (k := 170) rfl) (by decide) ?_
              have ht : tokAt f n p = (9, p, (py (tb f n) n (p + 1)), 0, 0) := by rw [tokAt, if_neg n_cp, if_neg n_dg, if_neg n_sm, if_neg n_39, if_pos hsy, if_pos hC]
              rw [ht]
              exact v_return (am_Dk d_MR_scan (k := 174) rfl) rfl (by omega) (by omega) ⟨_, _, l, g, rfl, rfl, rfl, scT_x (Or.inl ⟨by decide, by decide⟩) (by decide) (by decide) (by decide) (by omega), hg⟩
          · have hnb : ¬ blB (tb f n (py (tb f n) n (p + 1))) = true := by rw [← hbbl _ hyn]; exact ne_true_of_eq_false (bi0.mp (c33))
            refine v_aload_n (am_Dk d_MR_scan (k := 152) rfl) rfl ?_
            refine v_get (am_Dk d_MR_scan (k := 153) rfl) f_MR_89 m1 rfl ?_
            refine v_iload_n (am_Dk d_MR_scan (k := 154) rfl) rfl ?_
            refine v_bald (am_Dk d_MR_scan (k := 155) rfl) m26 rfl (vp_in4 (by omega)) ?_
            rw [nI_clamp (n := py (tb f n) n (p + 1)) (by omega)]
            refine v_bipush (v := 37) (am_Dk d_MR_scan (k := 156) rfl) (by decide) ?_
            refine v_icmp_ne (tgt := 325) (am_Dk d_MR_scan (k := 157) rfl) (by decide) (fun c41 => ?_) (fun c41 => ?_)
            · have hC : ¬ ((py (tb f n) n (p + 1)) = p + 1 ∧ tb f n p = 46 ∧ (tb f n (py (tb f n) n (p + 1)) = -1 ∨ tb f n (py (tb f n) n (p + 1)) = 37 ∨ blB (tb f n (py (tb f n) n (p + 1))) = true)) := fun z => z.2.2.elim (fun y => tb_m1 hb hyn y) (fun y => y.elim (fun x => c41 ((hb37 _ hyn).mpr x)) hnb)
              refine v_iconst (v := 0) (am_Dk d_MR_scan (k := 160) rfl) (by decide) ?_
              refine v_istore_n (L1 := [(3, .int 0), (1, .int (nI (py (tb f n) n (p + 1)))), (2, .int (f p)), (0, .ref 1225)]) (am_Dk d_MR_scan (k := 161) rfl) (by decide) rfl ?_
              refine v_aload_n (am_Dk d_MR_scan (k := 162) rfl) rfl ?_
              refine v_iload_n (am_Dk d_MR_scan (k := 163) rfl) rfl ?_
              refine v_if_eq (tgt := 336) (am_Dk d_MR_scan (k := 164) rfl) (by decide) (fun c42 => ?_) (fun c42 => ?_)
              · have Nc42 := (nI_eq (a := 0) (b := 0) (by omega) (by omega)).mp c42
                refine v_iconst (v := 3) (am_Dk d_MR_scan (k := 167) rfl) (by decide) ?_
                refine v_iload_n (am_Dk d_MR_scan (k := 168) rfl) rfl ?_
                refine v_callV (rest := []) (As := [.int 3, .int (nI (py (tb f n) n (p + 1)))]) (mc' := 0) (ms' := 0) (am_Dk d_MR_scan (k := 169) rfl) c_MR_158 (Or.inl ⟨_, _, _, _, _, m1, cq_ok12⟩) (t_MR_take G (d := 0) (by omega) m1) (by omega) (by omega) (by omega) (by simp [Value.category]) rfl (fun v43 M44 n45 h46 => ?_) (fun _ _ _ h46 => ?_)
                rotate_left
                · exact absurd h46.1 (by simp)
                obtain ⟨h46, e47, e48⟩ := h46
                replace e47 := e47.symm
                replace e48 := e48.symm
                subst e47
                subst e48
                cases h46
                rw [am_uu0 (a := 1225)]
                show am_V G _ _ _ _ _ 341 [(3, .int 0), (1, .int (nI (py (tb f n) n (p + 1)))), (2, .int (f p)), (0, .ref 1225)] [] (am_up (am_up M 1229 (.inl (0, 4096, .inl g))) 1225 (.inr (12, [.ref 1226, .ref 1227, .ref 1228, .ref 1213, .ref 1220, .ref 1212, .int (nI n), .int (nI p), .int (nI (py (tb f n) n (p + 1))), .int 3, .int op, .long nu, .ref 1229, .int (nI l), .ref 1230, .int tp, .int pl, .ref 1231, .int vd, .int kn, .int rk, .ref 1232]))) nx 0 0
                refine v_goto (tgt := 349) (am_Dk d_MR_scan (k := 170) rfl) (by decide) ?_
                have ht : tokAt f n p = (2, p, (py (tb f n) n (p + 1)), 0, spl f n p (py (tb f n) n (p + 1))) := by rw [tokAt, if_neg n_cp, if_neg n_dg, if_neg n_sm, if_neg n_39, if_pos hsy, if_neg hC]
                rw [ht]
                exact v_return (am_Dk d_MR_scan (k := 174) rfl) rfl (by omega) (by omega) ⟨_, _, l, g, rfl, rfl, rfl, scT_2 (by omega) (by omega) (wpI_e hwp), hg⟩
              · exact absurd (by decide) c42
            · have hC : ((py (tb f n) n (p + 1)) = p + 1 ∧ tb f n p = 46 ∧ (tb f n (py (tb f n) n (p + 1)) = -1 ∨ tb f n (py (tb f n) n (p + 1)) = 37 ∨ blB (tb f n (py (tb f n) n (p + 1))) = true)) := ⟨hl1, h46, Or.inr (Or.inl ((hb37 _ hyn).mp (c41)))⟩
              refine v_iconst (v := 1) (am_Dk d_MR_scan (k := 158) rfl) (by decide) ?_
              refine v_goto (tgt := 326) (am_Dk d_MR_scan (k := 159) rfl) (by decide) ?_
              refine v_istore_n (L1 := [(3, .int 1), (1, .int (nI (py (tb f n) n (p + 1)))), (2, .int (f p)), (0, .ref 1225)]) (am_Dk d_MR_scan (k := 161) rfl) (by decide) rfl ?_
              refine v_aload_n (am_Dk d_MR_scan (k := 162) rfl) rfl ?_
              refine v_iload_n (am_Dk d_MR_scan (k := 163) rfl) rfl ?_
              refine v_if_eq (tgt := 336) (am_Dk d_MR_scan (k := 164) rfl) (by decide) (fun c49 => ?_) (fun c49 => ?_)
              · exact absurd c49 (by decide)
              · have Nc49 : ¬ 1 = 0 := fun z => c49 ((nI_eq (a := 1) (b := 0) (by omega) (by omega)).mpr z)
                refine v_iconst (v := 0) (am_Dk d_MR_scan (k := 165) rfl) (by decide) ?_
                refine v_goto (tgt := 337) (am_Dk d_MR_scan (k := 166) rfl) (by decide) ?_
                refine v_iload_n (am_Dk d_MR_scan (k := 168) rfl) rfl ?_
                refine v_callV (rest := []) (As := [.int 0, .int (nI (py (tb f n) n (p + 1)))]) (mc' := 0) (ms' := 0) (am_Dk d_MR_scan (k := 169) rfl) c_MR_158 (Or.inl ⟨_, _, _, _, _, m1, cq_ok12⟩) (t_MR_take G (d := 0) (by omega) m1) (by omega) (by omega) (by omega) (by simp [Value.category]) rfl (fun v50 M51 n52 h53 => ?_) (fun _ _ _ h53 => ?_)
                rotate_left
                · exact absurd h53.1 (by simp)
                obtain ⟨h53, e54, e55⟩ := h53
                replace e54 := e54.symm
                replace e55 := e55.symm
                subst e54
                subst e55
                cases h53
                rw [am_uu0 (a := 1225)]
                show am_V G _ _ _ _ _ 341 [(3, .int 1), (1, .int (nI (py (tb f n) n (p + 1)))), (2, .int (f p)), (0, .ref 1225)] [] (am_up (am_up M 1229 (.inl (0, 4096, .inl g))) 1225 (.inr (12, [.ref 1226, .ref 1227, .ref 1228, .ref 1213, .ref 1220, .ref 1212, .int (nI n), .int (nI p), .int (nI (py (tb f n) n (p + 1))), .int 0, .int op, .long nu, .ref 1229, .int (nI l), .ref 1230, .int tp, .int pl, .ref 1231, .int vd, .int kn, .int rk, .ref 1232]))) nx 0 0
                refine v_goto (tgt := 349) (am_Dk d_MR_scan (k := 170) rfl) (by decide) ?_
                have ht : tokAt f n p = (9, p, (py (tb f n) n (p + 1)), 0, 0) := by rw [tokAt, if_neg n_cp, if_neg n_dg, if_neg n_sm, if_neg n_39, if_pos hsy, if_pos hC]
                rw [ht]
                exact v_return (am_Dk d_MR_scan (k := 174) rfl) rfl (by omega) (by omega) ⟨_, _, l, g, rfl, rfl, rfl, scT_x (Or.inl ⟨by decide, by decide⟩) (by decide) (by decide) (by decide) (by omega), hg⟩
  have hm0 : (am_up (am_up M 1229 (.inl (0, 4096, .inl g0))) 1225 (.inr (12, [.ref 1226, .ref 1227, .ref 1228, .ref 1213, .ref 1220, .ref 1212, .int (nI n), .int (nI p), .int be, .int tk, .int op, .long nu, .ref 1229, .int (nI 0), .ref 1230, .int tp, .int pl, .ref 1231, .int vd, .int kn, .int rk, .ref 1232]))) = am_up M 1225 (.inr (12, [.ref 1226, .ref 1227, .ref 1228, .ref 1213, .ref 1220, .ref 1212, .int (nI n), .int (nI p), .int be, .int tk, .int op, .long nu, .ref 1229, .int 0, .ref 1230, .int tp, .int pl, .ref 1231, .int vd, .int kn, .int rk, .ref 1232])) := by rw [am_up_id hw]; rfl
  refine v_aload_n (am_Dk d_MR_scan (k := 39) rfl) rfl ?_
  refine v_iload_n (am_Dk d_MR_scan (k := 40) rfl) rfl ?_
  refine v_put (am_Dk d_MR_scan (k := 41) rfl) f_MR_116 hr (Nat.le_of_ble_eq_true rfl) rfl rfl ?_
  refine v_aload_n (am_Dk d_MR_scan (k := 42) rfl) rfl ?_
  refine v_iconst (v := 0) (am_Dk d_MR_scan (k := 43) rfl) (by decide) ?_
  have m1 : (am_up M 1225 (.inr (12, [.ref 1226, .ref 1227, .ref 1228, .ref 1213, .ref 1220, .ref 1212, .int (nI n), .int (nI p), .int be, .int tk, .int op, .long nu, .ref 1229, .int le, .ref 1230, .int tp, .int pl, .ref 1231, .int vd, .int kn, .int rk, .ref 1232]))) 1225 = some (.inr (12, [.ref 1226, .ref 1227, .ref 1228, .ref 1213, .ref 1220, .ref 1212, .int (nI n), .int (nI p), .int be, .int tk, .int op, .long nu, .ref 1229, .int le, .ref 1230, .int tp, .int pl, .ref 1231, .int vd, .int kn, .int rk, .ref 1232])) := am_up_eq _ _ _
  refine v_put (am_Dk d_MR_scan (k := 44) rfl) f_MR_139 m1 (Nat.le_of_ble_eq_true rfl) rfl rfl ?_
  rw [am_uu0 (a := 1225)]
  refine v_iload_n (am_Dk d_MR_scan (k := 45) rfl) rfl ?_
  refine v_aload_n (am_Dk d_MR_scan (k := 46) rfl) rfl ?_
  have m2 : (am_up M 1225 (.inr (12, [.ref 1226, .ref 1227, .ref 1228, .ref 1213, .ref 1220, .ref 1212, .int (nI n), .int (nI p), .int be, .int tk, .int op, .long nu, .ref 1229, .int 0, .ref 1230, .int tp, .int pl, .ref 1231, .int vd, .int kn, .int rk, .ref 1232]))) 1225 = some (.inr (12, [.ref 1226, .ref 1227, .ref 1228, .ref 1213, .ref 1220, .ref 1212, .int (nI n), .int (nI p), .int be, .int tk, .int op, .long nu, .ref 1229, .int 0, .ref 1230, .int tp, .int pl, .ref 1231, .int vd, .int kn, .int rk, .ref 1232])) := am_up_eq _ _ _
  refine v_get (am_Dk d_MR_scan (k := 47) rfl) f_MR_92 m2 rfl ?_
  refine v_icmp_ge (tgt := 105) (am_Dk d_MR_scan (k := 48) rfl) (by decide) (fun c3 => ?_) (fun c3 => ?_)
  · have Nc3 := (nI_leI (a := n) (b := p) (by omega) (by omega)).mp c3
    exfalso
    omega
  · have Nc3 : ¬ n ≤ p := fun z => c3 ((nI_leI (a := n) (b := p) (by omega) (by omega)).mpr z)
    refine v_aload_n (am_Dk d_MR_scan (k := 49) rfl) rfl ?_
    refine v_get (am_Dk d_MR_scan (k := 50) rfl) f_MR_89 m2 rfl ?_
    refine v_iload_n (am_Dk d_MR_scan (k := 51) rfl) rfl ?_
    have m4 : (am_up M 1225 (.inr (12, [.ref 1226, .ref 1227, .ref 1228, .ref 1213, .ref 1220, .ref 1212, .int (nI n), .int (nI p), .int be, .int tk, .int op, .long nu, .ref 1229, .int 0, .ref 1230, .int tp, .int pl, .ref 1231, .int vd, .int kn, .int rk, .ref 1232]))) 1212 = some (.inl (0, 4096, .inl f)) := (am_up_ne (show 1212 ≠ 1225 from by decide)).trans (h2)
    refine v_bald (am_Dk d_MR_scan (k := 52) rfl) m4 rfl (vp_in4 (by omega)) ?_
    rw [nI_clamp (n := p) (by omega)]
    refine v_goto (tgt := 106) (am_Dk d_MR_scan (k := 53) rfl) (by decide) ?_
    refine v_istore_n (L1 := [(2, .int (f (p))), (1, .int (nI p)), (0, .ref 1225)]) (am_Dk d_MR_scan (k := 55) rfl) (by decide) rfl ?_
    refine v_iload_n (am_Dk d_MR_scan (k := 56) rfl) rfl ?_
    refine v_aload_n (am_Dk d_MR_scan (k := 57) rfl) rfl ?_
    refine v_get (am_Dk d_MR_scan (k := 58) rfl) f_MR_92 m2 rfl ?_
    refine v_icmp_ne (tgt := 132) (am_Dk d_MR_scan (k := 59) rfl) (by decide) (fun c5 => ?_) (fun c5 => ?_)
    · have Nc5 : ¬ p = n := fun z => c5 ((nI_eq (a := p) (b := n) (by omega) (by omega)).mpr z)
      refine v_iload_n (am_Dk d_MR_scan (k := 68) rfl) rfl ?_
      refine v_callS (rest := []) (As := [.int (f (p))]) (mc' := 0) (ms' := 0) (am_Dk d_MR_scan (k := 69) rfl) c_MR_142 (t_MR_small G (d := 0)) (by omega) (by omega) (by omega) (by simp [Value.category]) rfl (fun v6 M7 n8 h9 => ?_) (fun _ _ _ h9 => ?_)
      rotate_left
      · exact absurd h9.1 (by simp)
      obtain ⟨h9, e10, e11⟩ := h9
      replace e10 := e10.symm
      replace e11 := e11.symm
      subst e10
      subst e11
      cases h9
      show am_V G _ _ _ _ _ 136 [(2, .int (f (p))), (1, .int (nI p)), (0, .ref 1225)] [.int (bi (smB (f (p))))] (am_up M 1225 (.inr (12, [.ref 1226, .ref 1227, .ref 1228, .ref 1213, .ref 1220, .ref 1212, .int (nI n), .int (nI p), .int be, .int tk, .int op, .long nu, .ref 1229, .int 0, .ref 1230, .int tp, .int pl, .ref 1231, .int vd, .int kn, .int rk, .ref 1232]))) nx 0 0
      refine v_if_ne (tgt := 146) (am_Dk d_MR_scan (k := 70) rfl) (by decide) (fun c12 => ?_) (fun c12 => ?_)
      · have h_sm : smB (tb f n p) = true := by rw [← esm]; exact bi1 c12
        exact v_drop (am_V_eq hm0 (l_MR_letters G (by omega) hr h2 hn hb hw (h195 (by first | exact Or.inr h_sm | exact Or.inl h_cp)) (n - p) p 0 g0 (by omega) (by omega) (wpI_0 f n p g0) hg0 rfl)) (by simp)
      · have n_sm : ¬ smB (tb f n p) = true := by rw [← esm]; exact ne_true_of_eq_false (bi0.mp (by first | exact c12 | exact c12))
        refine v_iload_n (am_Dk d_MR_scan (k := 71) rfl) rfl ?_
        refine v_callS (rest := []) (As := [.int (f (p))]) (mc' := 0) (ms' := 0) (am_Dk d_MR_scan (k := 72) rfl) c_MR_145 (t_MR_great G (d := 0)) (by omega) (by omega) (by omega) (by simp [Value.category]) rfl (fun v13 M14 n15 h16 => ?_) (fun _ _ _ h16 => ?_)
        rotate_left
        · exact absurd h16.1 (by simp)
        obtain ⟨h16, e17, e18⟩ := h16
        replace e17 := e17.symm
        replace e18 := e18.symm
        subst e17
        subst e18
        cases h16
        show am_V G _ _ _ _ _ 143 [(2, .int (f (p))), (1, .int (nI p)), (0, .ref 1225)] [.int (bi (cpB (f (p))))] (am_up M 1225 (.inr (12, [.ref 1226, .ref 1227, .ref 1228, .ref 1213, .ref 1220, .ref 1212, .int (nI n), .int (nI p), .int be, .int tk, .int op, .long nu, .ref 1229, .int 0, .ref 1230, .int tp, .int pl, .ref 1231, .int vd, .int kn, .int rk, .ref 1232]))) nx 0 0
        refine v_if_eq (tgt := 215) (am_Dk d_MR_scan (k := 73) rfl) (by decide) (fun c19 => ?_) (fun c19 => ?_)
        · have n_cp : ¬ cpB (tb f n p) = true := by rw [← ecp]; exact ne_true_of_eq_false (bi0.mp (by first | exact c19 | exact c19))
          refine v_iload_n (am_Dk d_MR_scan (k := 107) rfl) rfl ?_
          refine v_callS (rest := []) (As := [.int (f (p))]) (mc' := 0) (ms' := 0) (am_Dk d_MR_scan (k := 108) rfl) c_MR_151 (t_MR_digit G (d := 0)) (by omega) (by omega) (by omega) (by simp [Value.category]) rfl (fun v20 M21 n22 h23 => ?_) (fun _ _ _ h23 => ?_)
          rotate_left
          · exact absurd h23.1 (by simp)
          obtain ⟨h23, e24, e25⟩ := h23
          replace e24 := e24.symm
          replace e25 := e25.symm
          subst e24
          subst e25
          cases h23
          show am_V G _ _ _ _ _ 219 [(2, .int (f (p))), (1, .int (nI p)), (0, .ref 1225)] [.int (bi (dgB (f (p))))] (am_up M 1225 (.inr (12, [.ref 1226, .ref 1227, .ref 1228, .ref 1213, .ref 1220, .ref 1212, .int (nI n), .int (nI p), .int be, .int tk, .int op, .long nu, .ref 1229, .int 0, .ref 1230, .int tp, .int pl, .ref 1231, .int vd, .int kn, .int rk, .ref 1232]))) nx 0 0
          refine v_if_eq (tgt := 229) (am_Dk d_MR_scan (k := 109) rfl) (by decide) (fun c26 => ?_) (fun c26 => ?_)
          · have n_dg : ¬ dgB (tb f n p) = true := by rw [← edg]; exact ne_true_of_eq_false (bi0.mp (by first | exact c26 | exact c26))
            refine v_iload_n (am_Dk d_MR_scan (k := 113) rfl) rfl ?_
            refine v_bipush (v := 39) (am_Dk d_MR_scan (k := 114) rfl) (by decide) ?_
            refine v_icmp_ne (tgt := 242) (am_Dk d_MR_scan (k := 115) rfl) (by decide) (fun c27 => ?_) (fun c27 => ?_)
            · have n_39 : ¬ tb f n p = 39 := fun z => c27 (e39.mpr z)
              refine v_iload_n (am_Dk d_MR_scan (k := 119) rfl) rfl ?_
              refine v_callS (rest := []) (As := [.int (f (p))]) (mc' := 0) (ms' := 0) (am_Dk d_MR_scan (k := 120) rfl) c_MR_168 (t_MR_symbol G (d := 4) (by omega) ((hb _).2)) (by omega) (by omega) (by omega) (by simp [Value.category]) rfl (fun v28 M29 n30 h31 => ?_) (fun _ _ _ h31 => ?_)
              rotate_left
              · exact absurd h31.1 (by simp)
              obtain ⟨h31, e32, e33⟩ := h31
              replace e32 := e32.symm
              replace e33 := e33.symm
              subst e32
              subst e33
              cases h31
              show am_V G _ _ _ _ _ 246 [(2, .int (f (p))), (1, .int (nI p)), (0, .ref 1225)] [.int (bi (syB (f (p))))] (am_up M 1225 (.inr (12, [.ref 1226, .ref 1227, .ref 1228, .ref 1213, .ref 1220, .ref 1212, .int (nI n), .int (nI p), .int be, .int tk, .int op, .long nu, .ref 1229, .int 0, .ref 1230, .int tp, .int pl, .ref 1231, .int vd, .int kn, .int rk, .ref 1232]))) nx 0 0
              refine v_if_eq (tgt := 344) (am_Dk d_MR_scan (k := 121) rfl) (by decide) (fun c34 => ?_) (fun c34 => ?_)
              · have n_sy : ¬ syB (tb f n p) = true := by rw [← esy]; exact ne_true_of_eq_false (bi0.mp (by first | exact c34 | exact c34))
                refine v_aload_n (am_Dk d_MR_scan (k := 171) rfl) rfl ?_
                refine v_iload_n (am_Dk d_MR_scan (k := 172) rfl) rfl ?_
                have m35 : (am_up M 1225 (.inr (12, [.ref 1226, .ref 1227, .ref 1228, .ref 1213, .ref 1220, .ref 1212, .int (nI n), .int (nI p), .int be, .int tk, .int op, .long nu, .ref 1229, .int 0, .ref 1230, .int tp, .int pl, .ref 1231, .int vd, .int kn, .int rk, .ref 1232]))) 1229 = some (.inl (0, 4096, .inl g0)) := (am_up_ne (show 1229 ≠ 1225 from by decide)).trans (hw)
                refine v_callV (rest := []) (As := [.int (f (p))]) (mc' := 0) (ms' := 0) (am_Dk d_MR_scan (k := 173) rfl) c_MR_171 (Or.inl ⟨_, _, _, _, _, m2, cq_ok12⟩) (t_MR_sign G (d := 1) (at9 := 0) (le := 0) (by omega) m2 m4 hn hb hpl m35 hg0) (by omega) (by omega) (by omega) (by simp [Value.category]) rfl (fun v36 M37 n38 h39 => ?_) (fun _ _ _ h39 => ?_)
                rotate_left
                · obtain ⟨_, _, _, h9, _⟩ := h39; cases h9
                obtain ⟨tk1, l, g, h39, e41, e40, hsc, hg⟩ := h39
                replace e40 := e40.symm
                replace e41 := e41.symm
                subst e40
                subst e41
                cases h39
                rw [am_uu1 (a := 1225)]
                show am_V G _ _ _ _ _ 349 [(2, .int (f (p))), (1, .int (nI p)), (0, .ref 1225)] [] (am_up (am_up M 1229 (.inl (0, 4096, .inl g))) 1225 (.inr (12, [.ref 1226, .ref 1227, .ref 1228, .ref 1213, .ref 1220, .ref 1212, .int (nI n), .int (nI (tokMk f n p).2.1), .int (nI (tokMk f n p).2.2.1), .int tk1, .int op, .long nu, .ref 1229, .int (nI l), .ref 1230, .int tp, .int pl, .ref 1231, .int vd, .int kn, .int rk, .ref 1232]))) nx 0 0
                have ht : tokAt f n p = tokMk f n p := by rw [tokAt, if_neg n_cp, if_neg n_dg, if_neg n_sm, if_neg n_39, if_neg n_sy, tokMk]
                rw [ht]
                exact v_return (am_Dk d_MR_scan (k := 174) rfl) rfl (by omega) (by omega) ⟨_, _, l, g, rfl, rfl, rfl, hsc, hg⟩
              · have h_sy : syB (tb f n p) = true := by rw [← esy]; exact bi1 c34
                exact v_drop (am_V_eq hm0 (l_MR_syms G (by omega) hr h2 hn hb hw (h276 n_cp n_dg n_sm n_39 h_sy) (n - p) p 0 g0 (by omega) (by omega) (wpI_0 f n p g0) hg0 (by rw [show n - p = (n - (p + 1)) + 1 from by omega, py_in h_sy]; rfl))) (by simp)
            · have h_39 : tb f n p = 39 := e39.mp (c27)
              refine v_aload_n (am_Dk d_MR_scan (k := 116) rfl) rfl ?_
              have m42 : (am_up M 1225 (.inr (12, [.ref 1226, .ref 1227, .ref 1228, .ref 1213, .ref 1220, .ref 1212, .int (nI n), .int (nI p), .int be, .int tk, .int op, .long nu, .ref 1229, .int 0, .ref 1230, .int tp, .int pl, .ref 1231, .int vd, .int kn, .int rk, .ref 1232]))) 1229 = some (.inl (0, 4096, .inl g0)) := (am_up_ne (show 1229 ≠ 1225 from by decide)).trans (hw)
              refine v_callV (rest := []) (As := []) (mc' := 0) (ms' := 0) (am_Dk d_MR_scan (k := 117) rfl) c_MR_165 (Or.inl ⟨_, _, _, _, _, m2, cq_ok12⟩) (t_MR_quoted G (d := 1) (at9 := 0) (le := 0) (by omega) m2 m4 hn hb hpl m42 hg0) (by omega) (by omega) (by omega) (by simp [Value.category]) rfl (fun v43 M44 n45 h46 => ?_) (fun v43 M44 n45 h46 => ?_)
              · rcases h46 with ⟨h39, l, g, hwq, hg, hl9, h46, e1, e2⟩ | ⟨h39, l, g, hg, hl9, h46, e1, e2⟩
                · cases h46
                  replace e1 := e1.symm
                  replace e2 := e2.symm
                  subst e1
                  subst e2
                  rw [am_uu1 (a := 1225)]
                  show am_V G _ _ _ _ _ 239 [(2, .int (f (p))), (1, .int (nI p)), (0, .ref 1225)] [] (am_up (am_up M 1229 (.inl (0, 4096, .inl g))) 1225 (.inr (12, [.ref 1226, .ref 1227, .ref 1228, .ref 1213, .ref 1220, .ref 1212, .int (nI n), .int (nI p), .int (nI ((qd (tb f n) n (p + 1)) + 1)), .int 3, .int op, .long nu, .ref 1229, .int (nI l), .ref 1230, .int tp, .int pl, .ref 1231, .int vd, .int kn, .int rk, .ref 1232]))) nx 0 0
                  refine v_goto (tgt := 349) (am_Dk d_MR_scan (k := 118) rfl) (by decide) ?_
                  have ht : tokAt f n p = (2, p, (qd (tb f n) n (p + 1)) + 1, 0, spl f n (p + 1) (qd (tb f n) n (p + 1))) := by rw [tokAt, if_neg n_cp, if_neg n_dg, if_neg n_sm, if_pos h_39, if_pos h39]
                  have hwl := hwq.1
                  rw [ht]
                  exact v_return (am_Dk d_MR_scan (k := 174) rfl) rfl (by omega) (by omega) ⟨_, _, l, g, rfl, rfl, rfl, scT_2 hl9 (by omega) (wqI_e hwq), hg⟩
                · cases h46
                  replace e1 := e1.symm
                  replace e2 := e2.symm
                  subst e1
                  subst e2
                  rw [am_uu1 (a := 1225)]
                  show am_V G _ _ _ _ _ 239 [(2, .int (f (p))), (1, .int (nI p)), (0, .ref 1225)] [] (am_up (am_up M 1229 (.inl (0, 4096, .inl g))) 1225 (.inr (12, [.ref 1226, .ref 1227, .ref 1228, .ref 1213, .ref 1220, .ref 1212, .int (nI n), .int (nI p), .int (nI (p + 1)), .int 12, .int op, .long nu, .ref 1229, .int (nI l), .ref 1230, .int tp, .int pl, .ref 1231, .int vd, .int kn, .int rk, .ref 1232]))) nx 0 0
                  refine v_goto (tgt := 349) (am_Dk d_MR_scan (k := 118) rfl) (by decide) ?_
                  have ht : tokAt f n p = (11, p, p + 1, 0, 0) := by rw [tokAt, if_neg n_cp, if_neg n_dg, if_neg n_sm, if_pos h_39, if_neg h39]
                  rw [ht]
                  exact v_return (am_Dk d_MR_scan (k := 174) rfl) rfl (by omega) (by omega) ⟨_, _, l, g, rfl, rfl, rfl, scT_x (Or.inr ⟨rfl, Or.inr (Or.inr rfl)⟩) (by decide) (by decide) (by decide) hl9, hg⟩
              · rcases h46 with ⟨h39, l, g, hwq, hg, hl9, h46, e1, e2⟩ | ⟨h39, l, g, hg, hl9, h46, e1, e2⟩
                · cases h46
                · cases h46
          · have h_dg : dgB (tb f n p) = true := by rw [← edg]; exact bi1 c26
            refine v_aload_n (am_Dk d_MR_scan (k := 110) rfl) rfl ?_
            refine v_callV (rest := []) (As := []) (mc' := 0) (ms' := 0) (am_Dk d_MR_scan (k := 111) rfl) c_MR_162 (Or.inl ⟨_, _, _, _, _, m2, cq_ok12⟩) (t_MR_digits G (d := 1) (at9 := 0) (by omega) m2 m4 hn hb (by omega)) (by omega) (by omega) (by omega) (by simp [Value.category]) rfl (fun v47 M48 n49 h50 => ?_) (fun _ _ _ h50 => ?_)
            rotate_left
            · obtain ⟨_, _, h9, _⟩ := h50; cases h9
            obtain ⟨u, hu, h50, e51, e52⟩ := h50
            replace e51 := e51.symm
            replace e52 := e52.symm
            subst e51
            subst e52
            cases h50
            rw [am_uu0 (a := 1225)]
            show am_V G _ _ _ _ _ 226 [(2, .int (f (p))), (1, .int (nI p)), (0, .ref 1225)] [] (am_up M 1225 (.inr (12, [.ref 1226, .ref 1227, .ref 1228, .ref 1213, .ref 1220, .ref 1212, .int (nI n), .int (nI p), .int (nI (dv (tb f n) n p).1), .int (if u < 9007199254740992 then 2 else 12), .int op, .long u, .ref 1229, .int 0, .ref 1230, .int tp, .int pl, .ref 1231, .int vd, .int kn, .int rk, .ref 1232]))) nx 0 0
            refine v_goto (tgt := 349) (am_Dk d_MR_scan (k := 112) rfl) (by decide) ?_
            have hdl := dgI_lt hu
            have hdr : (dv (tb f n) n p).1 ≤ n := (dv_rng (tb f n) n (n - p) p 0 (by omega)).2
            by_cases hL : u < 9007199254740992
            · have ht : tokAt f n p = (1, p, (dv (tb f n) n p).1, (dv (tb f n) n p).2, 0) := by rw [tokAt, if_neg n_cp, if_pos h_dg, if_neg (hdl.1.mp hL)]
              rw [ht]
              exact v_return (am_Dk d_MR_scan (k := 174) rfl) rfl (by omega) (by omega) ⟨(if u < 9007199254740992 then 2 else 12), u, 0, g0, rfl, rfl, by rw [am_up_id hw]; rfl, by rw [hdl.2 hL]; exact scT_1 (if_pos hL) (by decide), hg0⟩
            · have ht : tokAt f n p = (11, p, (dv (tb f n) n p).1, 0, 0) := by rw [tokAt, if_neg n_cp, if_pos h_dg, if_pos (Classical.not_not.mp (fun z => hL (hdl.1.mpr z)))]
              rw [ht]
              exact v_return (am_Dk d_MR_scan (k := 174) rfl) rfl (by omega) (by omega) ⟨(if u < 9007199254740992 then 2 else 12), u, 0, g0, rfl, rfl, by rw [am_up_id hw]; rfl, scT_x (Or.inr ⟨rfl, Or.inr (Or.inr (if_neg hL))⟩) (by decide) (by decide) (by decide) (by decide), hg0⟩
        · have h_cp : cpB (tb f n p) = true := by rw [← ecp]; exact bi1 c19
          exact v_drop (am_V_eq hm0 (l_MR_letters G (by omega) hr h2 hn hb hw (h195 (by first | exact Or.inr h_sm | exact Or.inl h_cp)) (n - p) p 0 g0 (by omega) (by omega) (wpI_0 f n p g0) hg0 rfl)) (by simp)
    · exact absurd ((nI_eq (by omega) (by omega)).mp c5) (by omega)
set_option maxRecDepth 20000 in
theorem t_MR_scan (G : am_G) {d nx : Nat} (hd : 5 ≤ d) {M : am_M} {n : Nat} {at9 be tk op le tp pl vd kn rk : Int32} {nu : Int64} {a : Nat} (hr : M 1225 = some (.inr (12, [.ref 1226, .ref 1227, .ref 1228, .ref 1213, .ref 1220, .ref 1212, .int (nI n), .int at9, .int (nI a), .int tk, .int op, .long nu, .ref 1229, .int le, .ref 1230, .int tp, .int pl, .ref 1231, .int vd, .int kn, .int rk, .ref 1232]))) {f : Nat → Int32} (h2 : M 1212 = some (.inl (0, 4096, .inl f))) (hn : n ≤ 4096) (hb : tbB f) (ha : a ≤ n) {g0 : Nat → Int32} (hw : M 1229 = some (.inl (0, 4096, .inl g0))) (hg0 : tbB g0) : am_Tr G m_MR_scan d 0 0 [.ref 1225] M nx (fun r M1 nx1 => ∃ tk1 nu1 l g, r = .inl none ∧ nx1 = nx ∧ M1 = am_up (am_up M 1229 (.inl (0, 4096, .inl g))) 1225 (.inr (12, [.ref 1226, .ref 1227, .ref 1228, .ref 1213, .ref 1220, .ref 1212, .int (nI n), .int (nI (tok f n a).2.1), .int (nI (tok f n a).2.2.1), .int tk1, .int op, .long nu1, .ref 1229, .int (nI l), .ref 1230, .int tp, .int pl, .ref 1231, .int vd, .int kn, .int rk, .ref 1232])) ∧ scT f (tok f n a) tk1 nu1 l g ∧ tbB g) := by
  obtain ⟨p, hp⟩ : ∃ p, pb (tb f n) n a = p := ⟨_, rfl⟩
  have hpn : a ≤ p ∧ p ≤ n := by rw [← hp]; exact pb_rng (tb f n) n (n - a) a false (by omega)
  rw [show tok f n a = tokAt f n p from by rw [tok, hp]]
  refine am_TrOf (by decide) (Nat.le_of_ble_eq_true rfl) ?_
  show am_V G _ _ _ _ _ 0 [(0, .ref 1225)] [] M nx 0 0
  refine v_aload_n (am_Dk d_MR_scan (k := 0) rfl) rfl ?_
  refine v_get (am_Dk d_MR_scan (k := 1) rfl) f_MR_96 hr rfl ?_
  refine v_istore_n (L1 := [(1, .int (nI a)), (0, .ref 1225)]) (am_Dk d_MR_scan (k := 2) rfl) (by decide) rfl ?_
  exact (l_MR_blanks G (by omega) hr h2 hn hb (l_MR_scan78 G hd hr h2 hn hb hpn.2 hw hg0) (n - a) a (by omega)).1 hp
