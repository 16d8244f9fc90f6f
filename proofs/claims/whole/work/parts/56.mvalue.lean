/-! VALUE OF THE REFERENCE (mine; rows laid by the walker) -/
def errR (e : Int32) : Prop := e = 0 ∨ e = 1 ∨ e = 2 ∨ e = 3 ∨ e = 4
theorem setE_e (v : Int64) : errR (setE v) := by
  by_cases h : fitP v = true
  · rw [setE, if_pos h]; exact Or.inl rfl
  · rw [setE, if_neg h]; exact Or.inr (Or.inr (Or.inr (Or.inr rfl)))
theorem rk1_e (k : Nat) {e : Int32} (v : Int64) (he : errR e) : errR (rk1 k e v).1 := by
  by_cases h1 : oneK k = true
  · by_cases h2 : e = 0
    · by_cases h3 : k = 18
      · rw [rk1, if_pos h1, if_pos h2, if_pos h3]; exact setE_e _
      · rw [rk1, if_pos h1, if_pos h2, if_neg h3]; exact setE_e _
    · rw [rk1, if_pos h1, if_neg h2]; exact he
  · rw [rk1, if_neg h1]; exact Or.inr (Or.inr (Or.inl rfl))
theorem rk2_e (k : Nat) {e1 e : Int32} (v1 v : Int64) (h1' : errR e1) (he : errR e) : errR (rk2 k e1 v1 e v).1 := by
  by_cases h1 : twoK k = true
  · by_cases h2 : e1 = 0
    · by_cases h3 : e = 0
      · by_cases h4 : dvsK k = true ∧ v = 0
        · rw [rk2, if_pos h1, if_pos h2, if_pos h3, if_pos h4]; exact Or.inr (Or.inr (Or.inr (Or.inl rfl)))
        · by_cases h5 : k = 19 ∧ ptg v1 v = true
          · rw [rk2, if_pos h1, if_pos h2, if_pos h3, if_neg h4, if_pos h5]; exact Or.inr (Or.inr (Or.inr (Or.inr rfl)))
          · rw [rk2, if_pos h1, if_pos h2, if_pos h3, if_neg h4, if_neg h5]; exact setE_e _
      · rw [rk2, if_pos h1, if_pos h2, if_neg h3]; exact he
    · rw [rk2, if_pos h1, if_neg h2]; exact h1'
  · rw [rk2, if_neg h1]; exact Or.inr (Or.inr (Or.inl rfl))
theorem ar_E {LU : Nat → (Nat → Int32) → Option Int64} {T : Nat → Int32} {F : Nat → Nat} {ns vb pt sz : Nat} {Va : Nat → Int32} {A : Arn} {W : Gho} (h : ∀ x, x < sz → ar_ok LU T F ns Va vb pt A W x) : ∀ N x, x < N → x < sz → errR (W.1 x).1 := by
  intro N
  induction N with
  | zero => intro x hx; omega
  | succ N ih =>
    intro x hxN hxs
    rcases h x hxs with ⟨_, _, _, v, _, _, h6⟩ | ⟨_, _, _, h4, _, _⟩ | ⟨_, _, k, c, b, _, _, h5⟩
    · rcases h6 with ⟨_, g2, _⟩ | ⟨k, l, g, _, _, _, _, g5⟩
      · rw [g2]; exact Or.inr (Or.inl rfl)
      · rw [g5]
        cases LU l g with
        | none => exact Or.inr (Or.inl rfl)
        | some v => exact setE_e v
    · rw [h4]; exact Or.inl rfl
    · obtain ⟨_, _, _, _, _, g6, g7, g8, _⟩ := h5
      by_cases c1 : c = 1
      · obtain ⟨y, y1, _, e⟩ := g6 c1
        rw [e]; exact rk1_e _ _ (ih y (by omega) (by omega))
      · by_cases c2 : c = 2
        · obtain ⟨y, z, y1, z1, _, _, e, _⟩ := g7 c2
          rw [e]; exact rk2_e _ _ _ (ih y (by omega) (by omega)) (ih z (by omega) (by omega))
        · rw [g8 c1 c2]; exact Or.inr (Or.inr (Or.inl rfl))
theorem errR_le {e : Int32} (h : errR e) : e ≤ 0 ↔ e = 0 := by
  rcases h with h | h | h | h | h <;> subst h <;> decide
theorem tbl_fr {M M1 : am_M} {c : Nat} {Vl : Nat → Nat} {Vg : Nat → Nat → Int32} {Vn : Nat → Int64} {P : Nat → Int32} {Q : Nat → Nat} (h : tbl M c Vl Vg Vn P Q) (hf : ∀ i, 1233 ≤ i → i ≤ 1235 → M1 i = M i) : tbl M1 c Vl Vg Vn P Q := by
  obtain ⟨t1, t2, ⟨Qa, t3, t4⟩, ⟨Vr, t5, t6⟩, t7⟩ := h
  exact ⟨(hf _ (by omega) (by omega)).trans t1, t2, ⟨Qa, (hf _ (by omega) (by omega)).trans t3, t4⟩, ⟨Vr, (hf _ (by omega) (by omega)).trans t5, t6⟩, t7⟩
def wks (M : am_M) : Prop := (∃ Wk, M 1236 = some (.inl (1, 9000, .inl Wk))) ∧ (∃ Sg, M 1237 = some (.inl (1, 9000, .inl Sg))) ∧ ∃ Lf, M 1238 = some (.inl (2, 9000, .inr (.inl Lf)))
theorem rx_frK {f : Nat → Int32} {M M1 : am_M} (h : rx f M) (hf : ∀ i, ¬ (i = 1211 ∨ i = 1236 ∨ i = 1237 ∨ i = 1238) → M1 i = M i) : rx f M1 := by
  obtain ⟨a, ⟨A, sz, pt, b⟩, ⟨s9, t9, c⟩, ⟨T, d, d2⟩, ⟨A9, e⟩, ⟨X, e2⟩, ⟨Y, e3⟩, ⟨g, g1, g2⟩, ⟨S, g3⟩, ⟨V, g4⟩, ⟨kc, g5⟩⟩ := h
  exact ⟨mb_fr a (fun i hi => hf i (by omega)), ⟨A, sz, pt, ARs_fr b (fun i h1 h2 => hf i (by omega))⟩, ⟨s9, t9, (hf _ (by omega)).trans c⟩, ⟨T, (hf _ (by omega)).trans d, d2⟩, ⟨A9, (hf _ (by omega)).trans e⟩, ⟨X, (hf _ (by omega)).trans e2⟩, ⟨Y, (hf _ (by omega)).trans e3⟩, ⟨g, (hf _ (by omega)).trans g1, g2⟩, ⟨S, (hf _ (by omega)).trans g3⟩, ⟨V, (hf _ (by omega)).trans g4⟩, ⟨kc, (hf _ (by omega)).trans g5⟩⟩
theorem rcell_fr {M M1 : am_M} (h : rcell M) (hf : M1 1225 = M 1225) : rcell M1 := by
  obtain ⟨sv, n9, a9, b9, t9, o9, l9, p9, q9, v9, k9, r9, u9, h⟩ := h
  exact ⟨sv, n9, a9, b9, t9, o9, l9, p9, q9, v9, k9, r9, u9, hf.trans h⟩
set_option maxRecDepth 20000 in
theorem t_MM_value (G : am_G) {d nx : Nat} (hd : 412 ≤ d) {M : am_M} {f : Nat → Int32} {n : Nat} {LU : Nat → (Nat → Int32) → Option Int64} {lu : Nat → Nat → Option Int64} (hb : tbB f) (hn : n ≤ 4096) (hU : luOk f n LU lu) {c : Nat} {Vl : Nat → Nat} {Vg : Nat → Nat → Int32} {Vn : Nat → Int64} {P : Nat → Int32} {Q : Nat → Nat} (hT9 : tbl M c Vl Vg Vn P Q) (hLU : LU = luT c Vl Vg Vn) {th pl er : Int32} {re : Int64} (h0 : M 1211 = some (.inr (9, [.int th, .int (nI n), .int pl, .int er, .int (nI c), .ref 1212, .ref 1213, .ref 1220, .ref 1225, .ref 1233, .ref 1234, .ref 1235, .ref 1236, .ref 1237, .ref 1238, .long re]))) (hx : rx f M) (hrc : rcell M) (hwk : wks M) : am_Tr G m_MM_value d 0 0 [.ref 1211] M nx (fun r M1 nx1 => nx1 = nx ∧ (∀ i, i < 1211 ∨ (1232 < i ∧ i < 1236) ∨ 1238 < i → M1 i = M i) ∧ rx f M1 ∧ rcell M1 ∧ wks M1 ∧ ((∃ w, w ≤ n ∧ rdBad f n lu w ∧ r = .inl (some (.long 0)) ∧ ∃ re1, M1 1211 = some (.inr (9, [.int 2, .int 0, .int (nI w), .int 0, .int (nI c), .ref 1212, .ref 1213, .ref 1220, .ref 1225, .ref 1233, .ref 1234, .ref 1235, .ref 1236, .ref 1237, .ref 1238, .long re1]))) ∨ ∃ W t sz re1, rdOk f n lu W t sz ∧ ((¬ (W.1 t).1 = 0 ∧ r = .inl (some (.long 0)) ∧ M1 1211 = some (.inr (9, [.int 1, .int 0, .int (-1), .int ((W.1 t).1), .int (nI c), .ref 1212, .ref 1213, .ref 1220, .ref 1225, .ref 1233, .ref 1234, .ref 1235, .ref 1236, .ref 1237, .ref 1238, .long re1]))) ∨ ((W.1 t).1 = 0 ∧ r = .inl (some (.long (W.1 t).2)) ∧ M1 1211 = some (.inr (9, [.int 0, .int 0, .int (-1), .int 0, .int (nI c), .ref 1212, .ref 1213, .ref 1220, .ref 1225, .ref 1233, .ref 1234, .ref 1235, .ref 1236, .ref 1237, .ref 1238, .long re1])))))) := by
  refine am_TrOf (by decide) (Nat.le_of_ble_eq_true rfl) ?_
  show am_V G _ _ _ _ _ 0 [(0, .ref 1211)] [] M nx 0 0
  refine v_aload_n (am_Dk d_MM_value (k := 0) rfl) rfl ?_
  refine v_callV (rest := []) (As := []) (mc' := 0) (ms' := 0) (am_Dk d_MM_value (k := 1) rfl) c_MM_172 (Or.inl ⟨_, _, _, _, _, h0, cq_ok9⟩) (t_MM_text G (LU := LU) (lu := lu) (d := 411) (by omega) hb hn hU h0 hx hrc) (by omega) (by omega) (by omega) (by simp [Value.category]) rfl (fun v1 M2 n3 h4 => ?_) (fun _ _ _ h4 => ?_)
  rotate_left
  · obtain ⟨_, _, hT8⟩ := h4; rcases hT8 with ⟨_, _, _, _, _, _, _, _, _, _, _, hx9, _⟩ | ⟨_, _, hx9, _⟩ <;> cases hx9
  obtain ⟨hx9, hfT, hT8⟩ := h4
  replace hx9 := hx9.symm
  subst hx9
  have hTb : tbl M2 c Vl Vg Vn P Q := tbl_fr hT9 (fun i z1 z2 => hfT i (by omega))
  obtain ⟨⟨Wk0, hW0⟩, ⟨Sg0, hS0⟩, ⟨Lf0, hL0⟩⟩ := hwk
  replace hW0 := (hfT 1236 (by omega)).trans hW0
  replace hS0 := (hfT 1237 (by omega)).trans hS0
  replace hL0 := (hfT 1238 (by omega)).trans hL0
  rcases hT8 with ⟨t, sz, pt, ns, tx, vb, e1, e2, W, On, Vx, hv, hR, hrx, hrc1, q11, z1, z2, z3, z4, z5, z6, hok⟩ | ⟨wB, hwn, hv, hrx, hrc1, q11, hbad⟩
  · cases hv
    show am_V G _ _ _ _ _ 4 [(0, .ref 1211)] [.int (nI t)] M2 nx 0 0
    refine v_istore_n (L1 := [(1, .int (nI t)), (0, .ref 1211)]) (am_Dk d_MM_value (k := 2) rfl) (by decide) rfl ?_
    refine v_iload_n (am_Dk d_MM_value (k := 3) rfl) rfl ?_
    refine v_iconst (v := (-1)) (am_Dk d_MM_value (k := 4) rfl) (by decide) ?_
    refine v_icmp_ne (tgt := 17) (am_Dk d_MM_value (k := 5) rfl) (by decide) (fun c5 => ?_) (fun c5 => ?_)
    · refine v_aload_n (am_Dk d_MM_value (k := 11) rfl) rfl ?_
      refine v_iload_n (am_Dk d_MM_value (k := 12) rfl) rfl ?_
      obtain ⟨⟨Kd, Nm, Fi, Ma, Pa, Nu⟩, T, F, Va, hX⟩ := hR
      obtain ⟨sv, n9, a9, b9, t9, o9, l9, p9, q9, v9, k9, r9, u9, hrcx⟩ := hrc1
      have hrc1 : rcell M2 := ⟨sv, n9, a9, b9, t9, o9, l9, p9, q9, v9, k9, r9, u9, hrcx⟩
      have hsv : sv = .ref 1212 ∨ True := Or.inr trivial
      refine v_callV (rest := []) (As := [.int (nI t)]) (mc' := 0) (ms' := 0) (am_Dk d_MM_value (k := 13) rfl) c_MM_176 (Or.inl ⟨_, _, _, _, _, q11, cq_ok9⟩) (t_MM_reckon G (d := 7) (by omega) hX (by omega) (by omega) (by omega) (by omega) (by omega) hTb hLU hrcx q11 hW0 hS0 hL0 z1) (by omega) (by omega) (by omega) (by simp [Value.category]) rfl (fun v6 M7 n8 h9 => ?_) (fun _ _ _ h9 => ?_)
      rotate_left
      · obtain ⟨_, _, _, _, hx9, _⟩ := h9; cases hx9
      obtain ⟨Wk1, Sg1, Lf1, rr, h9, hx9, ⟨y1, y2, y3, y4, y5⟩, y6⟩ := h9
      cases h9
      replace hx9 := hx9.symm
      subst hx9
      have heR := ar_E hX.2.2.2.1 (t + 1) t (by omega) z1
      show am_V G _ _ _ _ _ 22 [(1, .int (nI t)), (0, .ref 1211)] [] M7 nx 0 0
      refine v_aload_n (am_Dk d_MM_value (k := 14) rfl) rfl ?_
      refine v_get (am_Dk d_MM_value (k := 15) rfl) f_MM_123 y4 rfl ?_
      refine v_if_le (tgt := 38) (am_Dk d_MM_value (k := 16) rfl) (by decide) (fun c10 => ?_) (fun c10 => ?_)
      · have he0 : (W.1 t).1 = 0 := (errR_le heR).mp c10
        refine v_aload_n (am_Dk d_MM_value (k := 22) rfl) rfl ?_
        refine v_get (am_Dk d_MM_value (k := 23) rfl) f_MM_132 y4 rfl ?_
        exact v_lreturn (am_Dk d_MM_value (k := 24) rfl) rfl (by omega) (by omega) ⟨rfl, fun i hi => ((y5 i (by omega)).trans (hfT i (by omega))), rx_frK hrx (fun i hi => (y5 i hi)), rcell_fr hrc1 ((y5 1225 (by omega))), ⟨⟨_, y1⟩, ⟨_, y2⟩, ⟨_, y3⟩⟩, Or.inr ⟨W, t, sz, _, hok, Or.inr ⟨he0, by rw [y6 he0], by rw [he0] at y4; exact y4⟩⟩⟩
      · have he0 : ¬ (W.1 t).1 = 0 := fun z => c10 ((errR_le heR).mpr z)
        refine v_aload_n (am_Dk d_MM_value (k := 17) rfl) rfl ?_
        refine v_iconst (v := 1) (am_Dk d_MM_value (k := 18) rfl) (by decide) ?_
        refine v_callV (rest := []) (As := [.int 1]) (mc' := 0) (ms' := 0) (am_Dk d_MM_value (k := 19) rfl) c_MM_67 (Or.inl ⟨_, _, _, _, _, y4, cq_ok9⟩) (t_MM_fail G (d := 0) (n := 0) (by omega) y4) (by omega) (by omega) (by omega) (by simp [Value.category]) rfl (fun v11 M12 n13 h14 => ?_) (fun _ _ _ h14 => ?_)
        rotate_left
        · exact absurd h14.1 (by simp)
        obtain ⟨h14, e15, e16⟩ := h14
        replace e15 := e15.symm
        replace e16 := e16.symm
        subst e15
        subst e16
        cases h14
        show am_V G _ _ _ _ _ 34 [(1, .int (nI t)), (0, .ref 1211)] [.int 0] (am_up M7 1211 (.inr (9, [.int 1, .int 0, .int (-1), .int ((W.1 t).1), .int (nI c), .ref 1212, .ref 1213, .ref 1220, .ref 1225, .ref 1233, .ref 1234, .ref 1235, .ref 1236, .ref 1237, .ref 1238, .long rr]))) nx 0 0
        refine v_i2l (am_Dk d_MM_value (k := 20) rfl) rfl ?_
        rw [show Int32.toInt64 0 = 0 from by decide]
        refine v_goto (tgt := 42) (am_Dk d_MM_value (k := 21) rfl) (by decide) ?_
        exact v_lreturn (am_Dk d_MM_value (k := 24) rfl) rfl (by omega) (by omega) ⟨rfl, fun i hi => (am_up_ne (show i ≠ 1211 from by omega)).trans (((y5 i (by omega)).trans (hfT i (by omega)))), rx_frK hrx (fun i hi => (am_up_ne (show i ≠ 1211 from by omega)).trans ((y5 i hi))), rcell_fr hrc1 ((am_up_ne (show 1225 ≠ 1211 from by omega)).trans ((y5 1225 (by omega)))), ⟨⟨_, (am_up_ne (show 1236 ≠ 1211 from by omega)).trans (y1)⟩, ⟨_, (am_up_ne (show 1237 ≠ 1211 from by omega)).trans (y2)⟩, ⟨_, (am_up_ne (show 1238 ≠ 1211 from by omega)).trans (y3)⟩⟩, Or.inr ⟨W, t, sz, _, hok, Or.inl ⟨he0, rfl, am_up_eq _ _ _⟩⟩⟩
    · exact absurd c5 (nI_nm1 (by omega))
  · cases hv
    show am_V G _ _ _ _ _ 4 [(0, .ref 1211)] [.int (-1)] M2 nx 0 0
    refine v_istore_n (L1 := [(1, .int (-1)), (0, .ref 1211)]) (am_Dk d_MM_value (k := 2) rfl) (by decide) rfl ?_
    refine v_iload_n (am_Dk d_MM_value (k := 3) rfl) rfl ?_
    refine v_iconst (v := (-1)) (am_Dk d_MM_value (k := 4) rfl) (by decide) ?_
    refine v_icmp_ne (tgt := 17) (am_Dk d_MM_value (k := 5) rfl) (by decide) (fun c17 => ?_) (fun c17 => ?_)
    · exact absurd (by decide) c17
    · refine v_aload_n (am_Dk d_MM_value (k := 6) rfl) rfl ?_
      refine v_iconst (v := 2) (am_Dk d_MM_value (k := 7) rfl) (by decide) ?_
      refine v_callV (rest := []) (As := [.int 2]) (mc' := 0) (ms' := 0) (am_Dk d_MM_value (k := 8) rfl) c_MM_67 (Or.inl ⟨_, _, _, _, _, q11, cq_ok9⟩) (t_MM_fail G (d := 0) (n := 0) (by omega) q11) (by omega) (by omega) (by omega) (by simp [Value.category]) rfl (fun v18 M19 n20 h21 => ?_) (fun _ _ _ h21 => ?_)
      rotate_left
      · exact absurd h21.1 (by simp)
      obtain ⟨h21, e22, e23⟩ := h21
      replace e22 := e22.symm
      replace e23 := e23.symm
      subst e22
      subst e23
      cases h21
      show am_V G _ _ _ _ _ 15 [(1, .int (-1)), (0, .ref 1211)] [.int 0] (am_up M2 1211 (.inr (9, [.int 2, .int 0, .int (nI wB), .int 0, .int (nI c), .ref 1212, .ref 1213, .ref 1220, .ref 1225, .ref 1233, .ref 1234, .ref 1235, .ref 1236, .ref 1237, .ref 1238, .long re]))) nx 0 0
      refine v_i2l (am_Dk d_MM_value (k := 9) rfl) rfl ?_
      rw [show Int32.toInt64 0 = 0 from by decide]
      exact v_lreturn (am_Dk d_MM_value (k := 10) rfl) rfl (by omega) (by omega) ⟨rfl, fun i hi => (am_up_ne (show i ≠ 1211 from by omega)).trans ((hfT i (by omega))), rx_fr9 hrx (fun i hi => (am_up_ne (show i ≠ 1211 from by omega)).trans (rfl)), rcell_fr hrc1 ((am_up_ne (show 1225 ≠ 1211 from by decide)).trans (rfl)), ⟨⟨_, (am_up_ne (show 1236 ≠ 1211 from by omega)).trans (hW0)⟩, ⟨_, (am_up_ne (show 1237 ≠ 1211 from by omega)).trans (hS0)⟩, ⟨_, (am_up_ne (show 1238 ≠ 1211 from by omega)).trans (hL0)⟩⟩, Or.inl ⟨wB, hwn, hbad, rfl, _, am_up_eq _ _ _⟩⟩
