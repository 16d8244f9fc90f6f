/-! THE REFERENCE'S READ (mine; rows laid by the walker) -/
def rdOk (f : Nat → Int32) (n : Nat) (lu : Nat → Nat → Option Int64) (W : Gho) (t sz : Nat) : Prop := ∀ lf rt la, ∃ K pr a9 ou lf' rt' w, c_fin f n (c_run f n lu 16384 (c_s0 lf rt la)) = (K, false, true, sz, -1, ou, pr, a9, lf', rt', w) ∧ OpN f n W t w ∧ (¬ (W.2.1 t).1 = 0 → ou = (W.2.1 t).1 ∧ (W.2.1 t).2.1 < sz ∧ (W.2.1 t).2.2 < sz ∧ OpN f n W (W.2.1 t).2.1 lf' ∧ OpN f n W (W.2.1 t).2.2 rt') ∧ ((W.2.1 t).1 = 0 → ou = 0 ∨ ou = 1)
def rdBad (f : Nat → Int32) (n : Nat) (lu : Nat → Nat → Option Int64) (w : Nat) : Prop := ∀ lf rt la, (c_fin f n (c_run f n lu 16384 (c_s0 lf rt la))).2.2.2.2.1 = nI w
theorem fin_bad {f : Nat → Int32} {n w : Nat} {s : Cfg} (h : s.2.2.2.2.1 = nI w) (hw : w ≤ 4096) : (c_fin f n s).2.2.2.2.1 = nI w := by
  obtain ⟨K, du, dn, sy, pl, ou, pr, a, lf, rt, la⟩ := s
  have h : pl = nI w := h
  rw [c_fin, if_neg (fun z => nI_m1 hw (h.symm.trans z.1))]
  exact h
theorem rd_ok {f : Nat → Int32} {n : Nat} {lu : Nat → Nat → Option Int64} (hn : n ≤ 4096) {W : Gho} {a' sz t : Nat} {r : Int32} (h : TRes f n lu 0 1200 0 0 W a' r sz t) (he : c_end f n 1200 a' r) (h1 : (tok f n a').1 = 9) (h2 : (tok f n (tok f n a').2.2.1).1 = 10) (h3 : sz ≤ 1000) : rdOk f n lu W t sz := by
  rcases h with ⟨w, ro, L9, R9, hT, hO, hro, hch⟩ | ⟨hk, _⟩
  · intro lf rt la
    obtain ⟨ou, lf', rt', ⟨c1, c2⟩, e⟩ := q_run hn hT he h1 h2 lf rt la
    refine ⟨[(0, 0, 1200, 0, la)], r, (tok f n a').2.2.1, ou, lf', rt', w, ?_, hO, fun z => ?_, fun z => ?_⟩
    · rw [e, c_fin, if_neg (fun z => absurd z.2 (by omega)), Nat.sub_zero]
    · rw [hro] at z
      obtain ⟨x1, x2, x3⟩ := c1 z
      obtain ⟨y1, y2, y3, y4⟩ := hch z
      exact ⟨by rw [hro]; exact x1, y1, y2, by rw [x2]; exact y3, by rw [x3]; exact y4⟩
    · rw [hro] at z
      rcases c2 z with x | x | x
      · exact Or.inl x
      · exact Or.inl x
      · exact Or.inr x
  · omega
theorem rd_big {f : Nat → Int32} {n : Nat} {lu : Nat → Nat → Option Int64} (hn : n ≤ 4096) {W : Gho} {a' sz t : Nat} {r : Int32} (h : TRes f n lu 0 1200 0 0 W a' r sz t) (he : c_end f n 1200 a' r) (h1 : (tok f n a').1 = 9) (h2 : (tok f n (tok f n a').2.2.1).1 = 10) (h3 : 1000 < sz) : rdBad f n lu (tok f n 0).2.1 := by
  rcases h with ⟨w, ro, L9, R9, hT, hO, hro, hch⟩ | ⟨hk, _⟩
  · intro lf rt la
    obtain ⟨ou, lf', rt', _, e⟩ := q_run hn hT he h1 h2 lf rt la
    rw [e, c_fin, if_pos ⟨rfl, by omega⟩]
  · omega
theorem rd_n9 {f : Nat → Int32} {n : Nat} {lu : Nat → Nat → Option Int64} (hn : n ≤ 4096) {W : Gho} {a' sz t : Nat} {r : Int32} (ha : a' ≤ n) (h : TRes f n lu 0 1200 0 0 W a' r sz t) (he : c_end f n 1200 a' r) (h1 : ¬ (tok f n a').1 = 9) : rdBad f n lu (tok f n a').2.1 := by
  have t1 := tok_ok f ha
  intro lf rt la
  refine fin_bad ?_ (by omega)
  rcases h with ⟨w, ro, L9, R9, hT, hO, hro, hch⟩ | ⟨hk, hB⟩
  · exact q_runN hn hT he h1 lf rt la
  · exact q_runB hn hB lf rt la
theorem rd_n10 {f : Nat → Int32} {n : Nat} {lu : Nat → Nat → Option Int64} (hn : n ≤ 4096) {W : Gho} {a' sz t : Nat} {r : Int32} (ha : a' ≤ n) (h : TRes f n lu 0 1200 0 0 W a' r sz t) (he : c_end f n 1200 a' r) (h1 : (tok f n a').1 = 9) (h2 : ¬ (tok f n (tok f n a').2.2.1).1 = 10) : rdBad f n lu (tok f n (tok f n a').2.2.1).2.1 := by
  have t1 := tok_ok f ha
  have t2 := tok_ok f (show (tok f n a').2.2.1 ≤ n by omega)
  intro lf rt la
  refine fin_bad ?_ (by omega)
  rcases h with ⟨w, ro, L9, R9, hT, hO, hro, hch⟩ | ⟨hk, hB⟩
  · exact q_runE hn hT he h1 h2 lf rt la
  · omega
theorem rd_thr {f : Nat → Int32} {n w : Nat} {lu : Nat → Nat → Option Int64} (hn : n ≤ 4096) (hw : w ≤ n) (h : TBad f n lu 0 1200 0 w) : rdBad f n lu w := fun lf rt la => fin_bad (q_runB hn h lf rt la) (by omega)
def RDQ (f : Nat → Int32) (n : Nat) (LU : Nat → (Nat → Int32) → Option Int64) (lu : Nat → Nat → Option Int64) (M : am_M) (nx : Nat) : am_Qt := fun r M1 nx1 => nx1 = nx ∧ pf_fr M M1 ∧ ((∃ t sz pt ns tx vb e1 e2 W On Vx, r = .inl (some (.int (nI t))) ∧ RS LU M1 sz pt ns tx vb e1 e2 W On Vx ∧ rx f M1 ∧ (∃ a9 b9 tk op nu l tp kn rk, M1 1225 = some (mr_o n a9 b9 tk op nu l tp (-1) vb kn rk)) ∧ t < sz ∧ sz ≤ 4096 ∧ pt ≤ sz ∧ ns ≤ 4100 ∧ tx ≤ 4100 ∧ vb ≤ 4096 ∧ rdOk f n lu W t sz) ∨ (∃ w, r = .inl (some (.int (-1))) ∧ PX f n M1 w ∧ rdBad f n lu w))
set_option maxRecDepth 20000 in
theorem t_MR_read (G : am_G) {d nx : Nat} (hd : 410 ≤ d) {M : am_M} {f : Nat → Int32} {n : Nat} {LU : Nat → (Nat → Int32) → Option Int64} {lu : Nat → Nat → Option Int64} (hb : tbB f) (hn : n ≤ 4096) (hU : luOk f n LU lu) {sv : Value} {n9 a9 b9 t9 o9 l9 p9 q9 k9 r9 : Int32} {u9 : Int64} (hr : M 1225 = some (.inr (12, [.ref 1226, .ref 1227, .ref 1228, .ref 1213, .ref 1220, sv, .int n9, .int a9, .int b9, .int t9, .int o9, .long u9, .ref 1229, .int l9, .ref 1230, .int p9, .int q9, .ref 1231, .int 0, .int k9, .int r9, .ref 1232]))) (hm : mb f M) {A : Arn} (hA : ARs M A 0 0) {T : Nat → Int32} {F : Nat → Nat} (hN : NMs M 0 0 T F) {Va S g kc : Nat → Int32} (hVa : M 1231 = some (.inl (1, 4200, .inl Va))) (hS : M 1230 = some (.inl (1, 4200, .inl S))) (hkc : M 1232 = some (.inl (0, 4096, .inl kc))) (hw : M 1229 = some (.inl (0, 4096, .inl g))) (hg : tbB g) : am_Tr G m_MR_read d 0 0 [.ref 1225, .ref 1212, .int (nI n)] M nx (RDQ f n LU lu M nx) := by
  refine am_TrOf (by decide) (Nat.le_of_ble_eq_true rfl) ?_
  show am_V G _ _ _ _ _ 0 [(0, .ref 1225), (1, .ref 1212), (2, .int (nI n))] [] M nx 0 0
  have hR : RS LU M 0 0 0 0 0 0 0 ((fun _ => (0, 0)), (fun _ => (0, 0, 0)), (fun _ => none)) (fun _ => 0) (fun _ => none) := ⟨A, T, F, Va, hA, hN, hVa, fun x hx => absurd hx (by omega), fun k hk => absurd hk (by omega), fun v hv => absurd hv (by omega), fun z => absurd z (by decide), fun z => absurd z (by decide)⟩
  have fr0 : pf_fr M M := fun i hi => rfl
  obtain ⟨W0, hW0⟩ : ∃ W0 : Gho, W0 = ((fun _ => (0, 0)), (fun _ => (0, 0, 0)), (fun _ => none)) := ⟨_, rfl⟩
  obtain ⟨On0, hOn0⟩ : ∃ On0 : Nat → Nat, On0 = (fun _ => 0) := ⟨_, rfl⟩
  obtain ⟨Vx0, hVx0⟩ : ∃ Vx0 : Nat → Option (Nat × (Nat → Int32)), Vx0 = (fun _ => none) := ⟨_, rfl⟩
  rw [← hW0, ← hOn0, ← hVx0] at hR
  have tk00 := tok_ok f (Nat.zero_le n)
  refine v_aload_n (am_Dk d_MR_read (k := 0) rfl) rfl ?_
  refine v_aload_n (am_Dk d_MR_read (k := 1) rfl) rfl ?_
  refine v_put (am_Dk d_MR_read (k := 2) rfl) f_MR_89 hr (Nat.le_of_ble_eq_true rfl) rfl rfl ?_
  refine v_aload_n (am_Dk d_MR_read (k := 3) rfl) rfl ?_
  refine v_iload_n (am_Dk d_MR_read (k := 4) rfl) rfl ?_
  have m1 : (am_up M 1225 (.inr (12, [.ref 1226, .ref 1227, .ref 1228, .ref 1213, .ref 1220, .ref 1212, .int n9, .int a9, .int b9, .int t9, .int o9, .long u9, .ref 1229, .int l9, .ref 1230, .int p9, .int q9, .ref 1231, .int 0, .int k9, .int r9, .ref 1232]))) 1225 = some (.inr (12, [.ref 1226, .ref 1227, .ref 1228, .ref 1213, .ref 1220, .ref 1212, .int n9, .int a9, .int b9, .int t9, .int o9, .long u9, .ref 1229, .int l9, .ref 1230, .int p9, .int q9, .ref 1231, .int 0, .int k9, .int r9, .ref 1232])) := am_up_eq _ _ _
  refine v_put (am_Dk d_MR_read (k := 5) rfl) f_MR_92 m1 (Nat.le_of_ble_eq_true rfl) rfl rfl ?_
  rw [am_uu0 (a := 1225)]
  refine v_aload_n (am_Dk d_MR_read (k := 6) rfl) rfl ?_
  refine v_iconst (v := 0) (am_Dk d_MR_read (k := 7) rfl) (by decide) ?_
  have m2 : (am_up M 1225 (.inr (12, [.ref 1226, .ref 1227, .ref 1228, .ref 1213, .ref 1220, .ref 1212, .int (nI n), .int a9, .int b9, .int t9, .int o9, .long u9, .ref 1229, .int l9, .ref 1230, .int p9, .int q9, .ref 1231, .int 0, .int k9, .int r9, .ref 1232]))) 1225 = some (.inr (12, [.ref 1226, .ref 1227, .ref 1228, .ref 1213, .ref 1220, .ref 1212, .int (nI n), .int a9, .int b9, .int t9, .int o9, .long u9, .ref 1229, .int l9, .ref 1230, .int p9, .int q9, .ref 1231, .int 0, .int k9, .int r9, .ref 1232])) := am_up_eq _ _ _
  refine v_put (am_Dk d_MR_read (k := 8) rfl) f_MR_96 m2 (Nat.le_of_ble_eq_true rfl) rfl rfl ?_
  rw [am_uu0 (a := 1225)]
  refine v_aload_n (am_Dk d_MR_read (k := 9) rfl) rfl ?_
  refine v_iconst (v := 0) (am_Dk d_MR_read (k := 10) rfl) (by decide) ?_
  have m3 : (am_up M 1225 (.inr (12, [.ref 1226, .ref 1227, .ref 1228, .ref 1213, .ref 1220, .ref 1212, .int (nI n), .int a9, .int 0, .int t9, .int o9, .long u9, .ref 1229, .int l9, .ref 1230, .int p9, .int q9, .ref 1231, .int 0, .int k9, .int r9, .ref 1232]))) 1225 = some (.inr (12, [.ref 1226, .ref 1227, .ref 1228, .ref 1213, .ref 1220, .ref 1212, .int (nI n), .int a9, .int 0, .int t9, .int o9, .long u9, .ref 1229, .int l9, .ref 1230, .int p9, .int q9, .ref 1231, .int 0, .int k9, .int r9, .ref 1232])) := am_up_eq _ _ _
  refine v_put (am_Dk d_MR_read (k := 11) rfl) f_MR_99 m3 (Nat.le_of_ble_eq_true rfl) rfl rfl ?_
  rw [am_uu0 (a := 1225)]
  refine v_aload_n (am_Dk d_MR_read (k := 12) rfl) rfl ?_
  refine v_iconst (v := 0) (am_Dk d_MR_read (k := 13) rfl) (by decide) ?_
  have m4 : (am_up M 1225 (.inr (12, [.ref 1226, .ref 1227, .ref 1228, .ref 1213, .ref 1220, .ref 1212, .int (nI n), .int a9, .int 0, .int t9, .int 0, .long u9, .ref 1229, .int l9, .ref 1230, .int p9, .int q9, .ref 1231, .int 0, .int k9, .int r9, .ref 1232]))) 1225 = some (.inr (12, [.ref 1226, .ref 1227, .ref 1228, .ref 1213, .ref 1220, .ref 1212, .int (nI n), .int a9, .int 0, .int t9, .int 0, .long u9, .ref 1229, .int l9, .ref 1230, .int p9, .int q9, .ref 1231, .int 0, .int k9, .int r9, .ref 1232])) := am_up_eq _ _ _
  refine v_put (am_Dk d_MR_read (k := 14) rfl) f_MR_102 m4 (Nat.le_of_ble_eq_true rfl) rfl rfl ?_
  rw [am_uu0 (a := 1225)]
  refine v_aload_n (am_Dk d_MR_read (k := 15) rfl) rfl ?_
  refine v_iconst (v := (-1)) (am_Dk d_MR_read (k := 16) rfl) (by decide) ?_
  have m5 : (am_up M 1225 (.inr (12, [.ref 1226, .ref 1227, .ref 1228, .ref 1213, .ref 1220, .ref 1212, .int (nI n), .int a9, .int 0, .int t9, .int 0, .long u9, .ref 1229, .int l9, .ref 1230, .int 0, .int q9, .ref 1231, .int 0, .int k9, .int r9, .ref 1232]))) 1225 = some (.inr (12, [.ref 1226, .ref 1227, .ref 1228, .ref 1213, .ref 1220, .ref 1212, .int (nI n), .int a9, .int 0, .int t9, .int 0, .long u9, .ref 1229, .int l9, .ref 1230, .int 0, .int q9, .ref 1231, .int 0, .int k9, .int r9, .ref 1232])) := am_up_eq _ _ _
  refine v_put (am_Dk d_MR_read (k := 17) rfl) f_MR_105 m5 (Nat.le_of_ble_eq_true rfl) rfl rfl ?_
  rw [am_uu0 (a := 1225)]
  refine v_aload_n (am_Dk d_MR_read (k := 18) rfl) rfl ?_
  have m6 : (am_up M 1225 (.inr (12, [.ref 1226, .ref 1227, .ref 1228, .ref 1213, .ref 1220, .ref 1212, .int (nI n), .int a9, .int 0, .int t9, .int 0, .long u9, .ref 1229, .int l9, .ref 1230, .int 0, .int (-1), .ref 1231, .int 0, .int k9, .int r9, .ref 1232]))) 1225 = some (.inr (12, [.ref 1226, .ref 1227, .ref 1228, .ref 1213, .ref 1220, .ref 1212, .int (nI n), .int a9, .int 0, .int t9, .int 0, .long u9, .ref 1229, .int l9, .ref 1230, .int 0, .int (-1), .ref 1231, .int 0, .int k9, .int r9, .ref 1232])) := am_up_eq _ _ _
  refine v_get (am_Dk d_MR_read (k := 19) rfl) f_MR_81 m6 rfl ?_
  refine v_get (am_Dk d_MR_read (k := 20) rfl) f_MR_108 (RS_o1213 (RS_fr (M1 := (am_up M 1225 (.inr (12, [.ref 1226, .ref 1227, .ref 1228, .ref 1213, .ref 1220, .ref 1212, .int (nI n), .int a9, .int 0, .int t9, .int 0, .long u9, .ref 1229, .int l9, .ref 1230, .int 0, .int (-1), .ref 1231, .int 0, .int k9, .int r9, .ref 1232])))) hR (fun i hi => (am_up_ne (show i ≠ 1225 from by omega)).trans (rfl)))) rfl ?_
  refine v_istore_n (L1 := [(3, .int (nI 0)), (0, .ref 1225), (1, .ref 1212), (2, .int (nI n))]) (am_Dk d_MR_read (k := 21) rfl) (by decide) rfl ?_
  refine v_aload_n (am_Dk d_MR_read (k := 22) rfl) rfl ?_
  have m7 : (am_up M 1225 (.inr (12, [.ref 1226, .ref 1227, .ref 1228, .ref 1213, .ref 1220, .ref 1212, .int (nI n), .int a9, .int 0, .int t9, .int 0, .long u9, .ref 1229, .int l9, .ref 1230, .int 0, .int (-1), .ref 1231, .int 0, .int k9, .int r9, .ref 1232]))) 1212 = some (.inl (0, 4096, .inl f)) := (am_up_ne (show 1212 ≠ 1225 from by decide)).trans (hm.1)
  have m8 : (am_up M 1225 (.inr (12, [.ref 1226, .ref 1227, .ref 1228, .ref 1213, .ref 1220, .ref 1212, .int (nI n), .int a9, .int 0, .int t9, .int 0, .long u9, .ref 1229, .int l9, .ref 1230, .int 0, .int (-1), .ref 1231, .int 0, .int k9, .int r9, .ref 1232]))) 1229 = some (.inl (0, 4096, .inl g)) := (am_up_ne (show 1229 ≠ 1225 from by decide)).trans (hw)
  refine v_callV (rest := []) (As := []) (mc' := 0) (ms' := 0) (am_Dk d_MR_read (k := 23) rfl) c_MR_113 (Or.inl ⟨_, _, _, _, _, m6, cq_ok12⟩) (t_MR_scan G (d := 5) (be := 0) (a := 0) (by omega) m6 m7 hn hb (by omega) m8 hg) (by omega) (by omega) (by omega) (by simp [Value.category]) rfl (fun v9 M10 n11 h12 => ?_) (fun _ _ _ h12 => ?_)
  rotate_left
  · obtain ⟨_, _, _, _, hx9, _⟩ := h12; cases hx9
  obtain ⟨tk13, nu14, l15, g16, h12, ex9, e17, hs18, hg19⟩ := h12
  replace e17 := e17.symm
  replace ex9 := ex9.symm
  subst e17
  subst ex9
  cases h12
  rw [am_uu1 (a := 1225)]
  have k_hs18 := tok_ok f (show 0 ≤ n from by omega)
  have p_hs18 := tok_pos f (show 0 ≤ n from by omega)
  have l_hs18 := hs18.2.2.1
  show am_V G _ _ _ _ _ 42 [(3, .int (nI 0)), (0, .ref 1225), (1, .ref 1212), (2, .int (nI n))] [] (am_up (am_up M 1229 (.inl (0, 4096, .inl g16))) 1225 (.inr (12, [.ref 1226, .ref 1227, .ref 1228, .ref 1213, .ref 1220, .ref 1212, .int (nI n), .int (nI (tok f n 0).2.1), .int (nI (tok f n 0).2.2.1), .int tk13, .int 0, .long nu14, .ref 1229, .int (nI l15), .ref 1230, .int 0, .int (-1), .ref 1231, .int 0, .int k9, .int r9, .ref 1232]))) nx 0 0
  refine v_aload_n (am_Dk d_MR_read (k := 24) rfl) rfl ?_
  have m20 : (am_up (am_up M 1229 (.inl (0, 4096, .inl g16))) 1225 (.inr (12, [.ref 1226, .ref 1227, .ref 1228, .ref 1213, .ref 1220, .ref 1212, .int (nI n), .int (nI (tok f n 0).2.1), .int (nI (tok f n 0).2.2.1), .int tk13, .int 0, .long nu14, .ref 1229, .int (nI l15), .ref 1230, .int 0, .int (-1), .ref 1231, .int 0, .int k9, .int r9, .ref 1232]))) 1225 = some (.inr (12, [.ref 1226, .ref 1227, .ref 1228, .ref 1213, .ref 1220, .ref 1212, .int (nI n), .int (nI (tok f n 0).2.1), .int (nI (tok f n 0).2.2.1), .int tk13, .int 0, .long nu14, .ref 1229, .int (nI l15), .ref 1230, .int 0, .int (-1), .ref 1231, .int 0, .int k9, .int r9, .ref 1232])) := am_up_eq _ _ _
  refine v_get (am_Dk d_MR_read (k := 25) rfl) f_MR_116 m20 rfl ?_
  refine v_istore (L1 := [(4, .int (nI (tok f n 0).2.1)), (3, .int (nI 0)), (0, .ref 1225), (1, .ref 1212), (2, .int (nI n))]) (am_Dk d_MR_read (k := 26) rfl) (by decide) rfl ?_
  refine v_aload_n (am_Dk d_MR_read (k := 27) rfl) rfl ?_
  refine v_sipush (v := 1200) (am_Dk d_MR_read (k := 28) rfl) (by decide) ?_
  have ps21 := (show PS f n LU (am_up (am_up M 1229 (.inl (0, 4096, .inl g16))) 1225 (.inr (12, [.ref 1226, .ref 1227, .ref 1228, .ref 1213, .ref 1220, .ref 1212, .int (nI n), .int (nI (tok f n 0).2.1), .int (nI (tok f n 0).2.2.1), .int tk13, .int 0, .long nu14, .ref 1229, .int (nI l15), .ref 1230, .int 0, .int (-1), .ref 1231, .int 0, .int k9, .int r9, .ref 1232]))) 0 0 0 S r9 0 0 0 0 0 0 0 W0 On0 Vx0 from ⟨⟨by omega, by omega, by omega, by omega, by omega, by omega, by omega, by omega, by omega, by omega⟩, mb_fr hm (fun i hi => (am_up_ne (show i ≠ 1225 from by omega)).trans ((am_up_ne (show i ≠ 1229 from by omega)).trans (rfl))), RS_fr hR (fun i hi => (am_up_ne (show i ≠ 1225 from by omega)).trans ((am_up_ne (show i ≠ 1229 from by omega)).trans (rfl))), (am_up_ne (show 1230 ≠ 1225 from by decide)).trans ((am_up_ne (show 1230 ≠ 1229 from by decide)).trans (hS)), ⟨_, (am_up_ne (show 1232 ≠ 1225 from by decide)).trans ((am_up_ne (show 1232 ≠ 1229 from by decide)).trans (hkc))⟩, tk13, nu14, l15, g16, k9, am_up_eq _ _ _, hs18, (am_up_ne (show 1229 ≠ 1225 from by decide)).trans (am_up_eq _ _ _), hg19⟩)
  refine v_callV (rest := []) (As := [.int 1200]) (mc' := 0) (ms' := 0) (am_Dk d_MR_read (k := 29) rfl) c_MR_119 (Or.inl ⟨_, _, _, _, _, m20, cq_ok12⟩) ((t_term G hb hn hU 100 0 rfl) _ _ 1200 _ _ _ _ _ _ _ _ _ _ _ _ _ _ ps21 (by decide)) (by omega) (by omega) (by omega) (by simp [Value.category]) rfl (fun v22 M23 n24 h25 => ?_) (fun x9 M23 n24 h25 => ?_)
  rotate_left
  · obtain ⟨ex9, pfT, hT⟩ := h25
    replace ex9 := ex9.symm
    subst ex9
    rcases hT with ⟨_, _, _, _, _, _, _, _, _, _, _, _, _, _, hx9, _⟩ | ⟨wT, hx9, pxT, bT⟩
    · cases hx9
    · cases hx9
      refine vt_catch (pxT).2.1.1.2.2 cq_ok17 [] (30, 119, 120, 61) [] rfl (fun _ h => absurd h List.not_mem_nil) ⟨by decide, by decide, "java/lang/IllegalStateException", (am_at (k := 1041) (by decide +kernel) (by decide +kernel)), (am_at (k := 1043) (by decide +kernel) (by decide +kernel))⟩ ?_
      show am_V G _ _ _ _ _ 120 [(4, .int (nI (tok f n 0).2.1)), (3, .int (nI 0)), (0, .ref 1225), (1, .ref 1212), (2, .int (nI n))] [.ref 1228] M23 nx 0 0
      refine v_astore_n (L1 := [(3, .ref 1228), (4, .int (nI (tok f n 0).2.1)), (0, .ref 1225), (1, .ref 1212), (2, .int (nI n))]) (am_Dk d_MR_read (k := 63) rfl) (by decide) rfl ?_
      refine v_iconst (v := (-1)) (am_Dk d_MR_read (k := 64) rfl) (by decide) ?_
      exact v_ireturn (am_Dk d_MR_read (k := 65) rfl) rfl rfl (by omega) (by omega) ⟨rfl, (fun i hi => (pfT i hi).trans ((am_up_ne (show i ≠ 1225 from by omega)).trans ((am_up_ne (show i ≠ 1229 from by omega)).trans ((fr0 i hi))))), Or.inr ⟨_, rfl, pxT, (rd_thr hn pxT.1 (bT.elim (fun z => absurd z.1 (by decide)) (fun z => z.2)))⟩⟩
  obtain ⟨ex9, pf40, hT⟩ := h25
  replace ex9 := ex9.symm
  subst ex9
  rcases hT with ⟨t26, a27, S28, rk29, sz30, pt31, ns32, tx33, vb34, e135, e236, W37, On38, Vx39, hx9, psx, pe41, tr42, ee43⟩ | ⟨_, hx9, _⟩
  rotate_left
  · cases hx9
  cases hx9
  obtain ⟨pb49, hm50, hR51, hS52, ⟨kc53, hk54⟩, tk44, nu45, l46, g47, kn48, hr55, hs56, hw57, hg58⟩ := psx
  obtain ⟨pb49_0, pb49_1, pb49_2, pb49_3, pb49_4, pb49_5, pb49_6, pb49_7, pb49_8, pb49_9⟩ := pb49
  obtain ⟨pe41_0, pe41_1, pe41_2, pe41_3, pe41_4, pe41_5, pe41_6, pe41_7, pe41_8⟩ := pe41
  replace hr55 : M23 1225 = some (.inr (12, [.ref 1226, .ref 1227, .ref 1228, .ref 1213, .ref 1220, .ref 1212, .int (nI n), .int (nI ((tok f n a27).2.1)), .int (nI ((tok f n a27).2.2.1)), .int tk44, .int (nI 0), .long nu45, .ref 1229, .int (nI l46), .ref 1230, .int (nI 0), .int (-1), .ref 1231, .int (nI vb34), .int kn48, .int rk29, .ref 1232])) := hr55
  have k_hs56 := tok_ok f pb49_0
  have p_hs56 := tok_pos f pb49_0
  have l_hs56 := hs56.2.2.1
  have fr59 : pf_fr M M23 := fun i hi => (pf40 i hi).trans ((am_up_ne (show i ≠ 1225 from by omega)).trans ((am_up_ne (show i ≠ 1229 from by omega)).trans ((fr0 i hi))))
  show am_V G _ _ _ _ _ 55 [(4, .int (nI (tok f n 0).2.1)), (3, .int (nI 0)), (0, .ref 1225), (1, .ref 1212), (2, .int (nI n))] [.int (nI t26)] M23 nx 0 0
  refine v_istore (L1 := [(5, .int (nI t26)), (4, .int (nI (tok f n 0).2.1)), (3, .int (nI 0)), (0, .ref 1225), (1, .ref 1212), (2, .int (nI n))]) (am_Dk d_MR_read (k := 30) rfl) (by decide) rfl ?_
  refine v_aload_n (am_Dk d_MR_read (k := 31) rfl) rfl ?_
  refine v_get (am_Dk d_MR_read (k := 32) rfl) f_MR_123 hr55 rfl ?_
  refine v_if_eq (tgt := 73) (am_Dk d_MR_read (k := 33) rfl) (by decide) (fun c60 => ?_) (fun c60 => ?_)
  · have hk9 : (tok f n a27).1 = 9 := (tkR_eq hs56.1 (by omega)).2.2.2.2.1.mp c60
    have hpp := tok_pos f (show a27 ≤ n from by omega) (by omega)
    refine v_aload_n (am_Dk d_MR_read (k := 39) rfl) rfl ?_
    refine v_callV (rest := []) (As := []) (mc' := 0) (ms' := 0) (am_Dk d_MR_read (k := 40) rfl) c_MR_113 (Or.inl ⟨_, _, _, _, _, hr55, cq_ok12⟩) (t_MR_scan G (d := 5) (be := 0) (a := (tok f n a27).2.2.1) (by omega) hr55 hm50.1 hn hb (by omega) hw57 hg58) (by omega) (by omega) (by omega) (by simp [Value.category]) rfl (fun v61 M62 n63 h64 => ?_) (fun _ _ _ h64 => ?_)
    rotate_left
    · obtain ⟨_, _, _, _, hx9, _⟩ := h64; cases hx9
    obtain ⟨tk65, nu66, l67, g68, h64, ex9, e69, hs70, hg71⟩ := h64
    replace e69 := e69.symm
    replace ex9 := ex9.symm
    subst e69
    subst ex9
    cases h64
    have k_hs70 := tok_ok f (show (tok f n a27).2.2.1 ≤ n from by omega)
    have p_hs70 := tok_pos f (show (tok f n a27).2.2.1 ≤ n from by omega)
    have l_hs70 := hs70.2.2.1
    show am_V G _ _ _ _ _ 77 [(5, .int (nI t26)), (4, .int (nI (tok f n 0).2.1)), (3, .int (nI 0)), (0, .ref 1225), (1, .ref 1212), (2, .int (nI n))] [] (am_up (am_up M23 1229 (.inl (0, 4096, .inl g68))) 1225 (.inr (12, [.ref 1226, .ref 1227, .ref 1228, .ref 1213, .ref 1220, .ref 1212, .int (nI n), .int (nI (tok f n ((tok f n a27).2.2.1)).2.1), .int (nI (tok f n ((tok f n a27).2.2.1)).2.2.1), .int tk65, .int (nI 0), .long nu66, .ref 1229, .int (nI l67), .ref 1230, .int (nI 0), .int (-1), .ref 1231, .int (nI vb34), .int kn48, .int rk29, .ref 1232]))) nx 0 0
    refine v_aload_n (am_Dk d_MR_read (k := 41) rfl) rfl ?_
    have m72 : (am_up (am_up M23 1229 (.inl (0, 4096, .inl g68))) 1225 (.inr (12, [.ref 1226, .ref 1227, .ref 1228, .ref 1213, .ref 1220, .ref 1212, .int (nI n), .int (nI (tok f n ((tok f n a27).2.2.1)).2.1), .int (nI (tok f n ((tok f n a27).2.2.1)).2.2.1), .int tk65, .int (nI 0), .long nu66, .ref 1229, .int (nI l67), .ref 1230, .int (nI 0), .int (-1), .ref 1231, .int (nI vb34), .int kn48, .int rk29, .ref 1232]))) 1225 = some (.inr (12, [.ref 1226, .ref 1227, .ref 1228, .ref 1213, .ref 1220, .ref 1212, .int (nI n), .int (nI (tok f n ((tok f n a27).2.2.1)).2.1), .int (nI (tok f n ((tok f n a27).2.2.1)).2.2.1), .int tk65, .int (nI 0), .long nu66, .ref 1229, .int (nI l67), .ref 1230, .int (nI 0), .int (-1), .ref 1231, .int (nI vb34), .int kn48, .int rk29, .ref 1232])) := am_up_eq _ _ _
    refine v_get (am_Dk d_MR_read (k := 42) rfl) f_MR_123 m72 rfl ?_
    refine v_bipush (v := 13) (am_Dk d_MR_read (k := 43) rfl) (by decide) ?_
    refine v_icmp_eq (tgt := 95) (am_Dk d_MR_read (k := 44) rfl) (by decide) (fun c73 => ?_) (fun c73 => ?_)
    · have hk10 : (tok f n ((tok f n a27).2.2.1)).1 = 10 := (tkR_eq hs70.1 (by omega)).2.2.2.2.2.1.mp c73
      refine v_aload_n (am_Dk d_MR_read (k := 50) rfl) rfl ?_
      refine v_get (am_Dk d_MR_read (k := 51) rfl) f_MR_81 m72 rfl ?_
      refine v_get (am_Dk d_MR_read (k := 52) rfl) f_MR_108 (RS_o1213 (RS_fr (M1 := (am_up (am_up M23 1229 (.inl (0, 4096, .inl g68))) 1225 (.inr (12, [.ref 1226, .ref 1227, .ref 1228, .ref 1213, .ref 1220, .ref 1212, .int (nI n), .int (nI (tok f n ((tok f n a27).2.2.1)).2.1), .int (nI (tok f n ((tok f n a27).2.2.1)).2.2.1), .int tk65, .int (nI 0), .long nu66, .ref 1229, .int (nI l67), .ref 1230, .int (nI 0), .int (-1), .ref 1231, .int (nI vb34), .int kn48, .int rk29, .ref 1232])))) hR51 (fun i hi => (am_up_ne (show i ≠ 1225 from by omega)).trans ((am_up_ne (show i ≠ 1229 from by omega)).trans (rfl))))) rfl ?_
      refine v_iload_n (am_Dk d_MR_read (k := 53) rfl) rfl ?_
      refine v_isub (am_Dk d_MR_read (k := 54) rfl) ?_
      rw [nI_sub (Nat.zero_le _), Nat.sub_zero]
      refine v_sipush (v := 1000) (am_Dk d_MR_read (k := 55) rfl) (by decide) ?_
      refine v_icmp_le (tgt := 117) (am_Dk d_MR_read (k := 56) rfl) (by decide) (fun c74 => ?_) (fun c74 => ?_)
      · have Nc74 := (nI_leI (a := sz30) (b := 1000) (by omega) (by omega)).mp c74
        refine v_iload (am_Dk d_MR_read (k := 61) rfl) rfl ?_
        have hRS9 := RS_fr (M1 := (am_up (am_up M23 1229 (.inl (0, 4096, .inl g68))) 1225 (.inr (12, [.ref 1226, .ref 1227, .ref 1228, .ref 1213, .ref 1220, .ref 1212, .int (nI n), .int (nI (tok f n ((tok f n a27).2.2.1)).2.1), .int (nI (tok f n ((tok f n a27).2.2.1)).2.2.1), .int tk65, .int (nI 0), .long nu66, .ref 1229, .int (nI l67), .ref 1230, .int (nI 0), .int (-1), .ref 1231, .int (nI vb34), .int kn48, .int rk29, .ref 1232])))) hR51 (fun i hi => (am_up_ne (show i ≠ 1225 from by omega)).trans ((am_up_ne (show i ≠ 1229 from by omega)).trans (rfl)))
        exact v_ireturn (am_Dk d_MR_read (k := 62) rfl) rfl rfl (by omega) (by omega) ⟨rfl, (fun i hi => (am_up_ne (show i ≠ 1225 from by omega)).trans ((am_up_ne (show i ≠ 1229 from by omega)).trans ((fr59 i hi)))), Or.inl ⟨t26, sz30, pt31, ns32, tx33, vb34, e135, e236, W37, On38, Vx39, rfl, hRS9, RS_rx (mb_fr hm50 (fun i hi => (am_up_ne (show i ≠ 1225 from by omega)).trans ((am_up_ne (show i ≠ 1229 from by omega)).trans (rfl)))) hRS9 ((am_up_ne (show 1229 ≠ 1225 from by decide)).trans (am_up_eq _ _ _)) hg71 ((am_up_ne (show 1230 ≠ 1225 from by decide)).trans ((am_up_ne (show 1230 ≠ 1229 from by decide)).trans (hS52))) ⟨_, (am_up_ne (show 1232 ≠ 1225 from by decide)).trans ((am_up_ne (show 1232 ≠ 1229 from by decide)).trans (hk54))⟩, ⟨_, _, _, _, _, _, _, _, _, am_up_eq _ _ _⟩, by omega, by omega, by omega, by omega, by omega, by omega, rd_ok hn tr42 ee43.2 hk9 hk10 (by omega)⟩⟩
      · have Nc74 : ¬ sz30 ≤ 1000 := fun z => c74 ((nI_leI (a := sz30) (b := 1000) (by omega) (by omega)).mpr z)
        refine v_aload_n (am_Dk d_MR_read (k := 57) rfl) rfl ?_
        refine v_iload (am_Dk d_MR_read (k := 58) rfl) rfl ?_
        refine v_callV (rest := []) (As := [.int (nI (tok f n 0).2.1)]) (mc' := 0) (ms' := 0) (am_Dk d_MR_read (k := 59) rfl) c_MR_126 (Or.inl ⟨_, _, _, _, _, m72, cq_ok12⟩) (t_MR_bad G (d := 0) (by omega) m72) (by omega) (by omega) (by omega) (by simp [Value.category]) rfl (fun v75 M76 n77 h78 => ?_) (fun _ _ _ h78 => ?_)
        rotate_left
        · exact absurd h78.1 (by simp)
        obtain ⟨h78, e79, e80⟩ := h78
        replace e79 := e79.symm
        replace e80 := e80.symm
        subst e79
        subst e80
        cases h78
        rw [am_uu0 (a := 1225)]
        show am_V G _ _ _ _ _ 116 [(5, .int (nI t26)), (4, .int (nI (tok f n 0).2.1)), (3, .int (nI 0)), (0, .ref 1225), (1, .ref 1212), (2, .int (nI n))] [.ref 1228] (am_up (am_up M23 1229 (.inl (0, 4096, .inl g68))) 1225 (.inr (12, [.ref 1226, .ref 1227, .ref 1228, .ref 1213, .ref 1220, .ref 1212, .int (nI n), .int (nI (tok f n ((tok f n a27).2.2.1)).2.1), .int (nI (tok f n ((tok f n a27).2.2.1)).2.2.1), .int tk65, .int (nI 0), .long nu66, .ref 1229, .int (nI l67), .ref 1230, .int (nI 0), .int (nI (tok f n 0).2.1), .ref 1231, .int (nI vb34), .int kn48, .int rk29, .ref 1232]))) nx 0 0
        refine v_athrow (am_Dk d_MR_read (k := 60) rfl) ?_
        have px81 := (show PX f n (am_up (am_up M23 1229 (.inl (0, 4096, .inl g68))) 1225 (.inr (12, [.ref 1226, .ref 1227, .ref 1228, .ref 1213, .ref 1220, .ref 1212, .int (nI n), .int (nI (tok f n ((tok f n a27).2.2.1)).2.1), .int (nI (tok f n ((tok f n a27).2.2.1)).2.2.1), .int tk65, .int (nI 0), .long nu66, .ref 1229, .int (nI l67), .ref 1230, .int (nI 0), .int (nI (tok f n 0).2.1), .ref 1231, .int (nI vb34), .int kn48, .int rk29, .ref 1232]))) ((tok f n 0).2.1) from ⟨by omega, RS_rx (mb_fr hm50 (fun i hi => (am_up_ne (show i ≠ 1225 from by omega)).trans ((am_up_ne (show i ≠ 1229 from by omega)).trans (rfl)))) (RS_fr hR51 (fun i hi => (am_up_ne (show i ≠ 1225 from by omega)).trans ((am_up_ne (show i ≠ 1229 from by omega)).trans (rfl)))) ((am_up_ne (show 1229 ≠ 1225 from by decide)).trans (am_up_eq _ _ _)) hg71 ((am_up_ne (show 1230 ≠ 1225 from by decide)).trans ((am_up_ne (show 1230 ≠ 1229 from by decide)).trans (hS52))) ⟨_, (am_up_ne (show 1232 ≠ 1225 from by decide)).trans ((am_up_ne (show 1232 ≠ 1229 from by decide)).trans (hk54))⟩, _, _, _, _, _, _, _, _, _, _, am_up_eq _ _ _⟩)
        refine vt_catch (px81).2.1.1.2.2 cq_ok17 [] (30, 119, 120, 61) [] rfl (fun _ h => absurd h List.not_mem_nil) ⟨by decide, by decide, "java/lang/IllegalStateException", (am_at (k := 1041) (by decide +kernel) (by decide +kernel)), (am_at (k := 1043) (by decide +kernel) (by decide +kernel))⟩ ?_
        show am_V G _ _ _ _ _ 120 [(5, .int (nI t26)), (4, .int (nI (tok f n 0).2.1)), (3, .int (nI 0)), (0, .ref 1225), (1, .ref 1212), (2, .int (nI n))] [.ref 1228] (am_up (am_up M23 1229 (.inl (0, 4096, .inl g68))) 1225 (.inr (12, [.ref 1226, .ref 1227, .ref 1228, .ref 1213, .ref 1220, .ref 1212, .int (nI n), .int (nI (tok f n ((tok f n a27).2.2.1)).2.1), .int (nI (tok f n ((tok f n a27).2.2.1)).2.2.1), .int tk65, .int (nI 0), .long nu66, .ref 1229, .int (nI l67), .ref 1230, .int (nI 0), .int (nI (tok f n 0).2.1), .ref 1231, .int (nI vb34), .int kn48, .int rk29, .ref 1232]))) nx 0 0
        refine v_astore_n (L1 := [(3, .ref 1228), (5, .int (nI t26)), (4, .int (nI (tok f n 0).2.1)), (0, .ref 1225), (1, .ref 1212), (2, .int (nI n))]) (am_Dk d_MR_read (k := 63) rfl) (by decide) rfl ?_
        refine v_iconst (v := (-1)) (am_Dk d_MR_read (k := 64) rfl) (by decide) ?_
        exact v_ireturn (am_Dk d_MR_read (k := 65) rfl) rfl rfl (by omega) (by omega) ⟨rfl, (fun i hi => (am_up_ne (show i ≠ 1225 from by omega)).trans ((am_up_ne (show i ≠ 1229 from by omega)).trans ((fr59 i hi)))), Or.inr ⟨_, rfl, px81, (rd_big hn tr42 ee43.2 hk9 hk10 (by omega))⟩⟩
    · have hk10 : ¬ (tok f n ((tok f n a27).2.2.1)).1 = 10 := fun z => c73 ((tkR_eq hs70.1 (by omega)).2.2.2.2.2.1.mpr z)
      refine v_aload_n (am_Dk d_MR_read (k := 45) rfl) rfl ?_
      refine v_aload_n (am_Dk d_MR_read (k := 46) rfl) rfl ?_
      refine v_get (am_Dk d_MR_read (k := 47) rfl) f_MR_116 m72 rfl ?_
      refine v_callV (rest := []) (As := [.int (nI (tok f n ((tok f n a27).2.2.1)).2.1)]) (mc' := 0) (ms' := 0) (am_Dk d_MR_read (k := 48) rfl) c_MR_126 (Or.inl ⟨_, _, _, _, _, m72, cq_ok12⟩) (t_MR_bad G (d := 0) (by omega) m72) (by omega) (by omega) (by omega) (by simp [Value.category]) rfl (fun v82 M83 n84 h85 => ?_) (fun _ _ _ h85 => ?_)
      rotate_left
      · exact absurd h85.1 (by simp)
      obtain ⟨h85, e86, e87⟩ := h85
      replace e86 := e86.symm
      replace e87 := e87.symm
      subst e86
      subst e87
      cases h85
      rw [am_uu0 (a := 1225)]
      show am_V G _ _ _ _ _ 94 [(5, .int (nI t26)), (4, .int (nI (tok f n 0).2.1)), (3, .int (nI 0)), (0, .ref 1225), (1, .ref 1212), (2, .int (nI n))] [.ref 1228] (am_up (am_up M23 1229 (.inl (0, 4096, .inl g68))) 1225 (.inr (12, [.ref 1226, .ref 1227, .ref 1228, .ref 1213, .ref 1220, .ref 1212, .int (nI n), .int (nI (tok f n ((tok f n a27).2.2.1)).2.1), .int (nI (tok f n ((tok f n a27).2.2.1)).2.2.1), .int tk65, .int (nI 0), .long nu66, .ref 1229, .int (nI l67), .ref 1230, .int (nI 0), .int (nI (tok f n ((tok f n a27).2.2.1)).2.1), .ref 1231, .int (nI vb34), .int kn48, .int rk29, .ref 1232]))) nx 0 0
      refine v_athrow (am_Dk d_MR_read (k := 49) rfl) ?_
      have px88 := (show PX f n (am_up (am_up M23 1229 (.inl (0, 4096, .inl g68))) 1225 (.inr (12, [.ref 1226, .ref 1227, .ref 1228, .ref 1213, .ref 1220, .ref 1212, .int (nI n), .int (nI (tok f n ((tok f n a27).2.2.1)).2.1), .int (nI (tok f n ((tok f n a27).2.2.1)).2.2.1), .int tk65, .int (nI 0), .long nu66, .ref 1229, .int (nI l67), .ref 1230, .int (nI 0), .int (nI (tok f n ((tok f n a27).2.2.1)).2.1), .ref 1231, .int (nI vb34), .int kn48, .int rk29, .ref 1232]))) ((tok f n ((tok f n a27).2.2.1)).2.1) from ⟨by omega, RS_rx (mb_fr hm50 (fun i hi => (am_up_ne (show i ≠ 1225 from by omega)).trans ((am_up_ne (show i ≠ 1229 from by omega)).trans (rfl)))) (RS_fr hR51 (fun i hi => (am_up_ne (show i ≠ 1225 from by omega)).trans ((am_up_ne (show i ≠ 1229 from by omega)).trans (rfl)))) ((am_up_ne (show 1229 ≠ 1225 from by decide)).trans (am_up_eq _ _ _)) hg71 ((am_up_ne (show 1230 ≠ 1225 from by decide)).trans ((am_up_ne (show 1230 ≠ 1229 from by decide)).trans (hS52))) ⟨_, (am_up_ne (show 1232 ≠ 1225 from by decide)).trans ((am_up_ne (show 1232 ≠ 1229 from by decide)).trans (hk54))⟩, _, _, _, _, _, _, _, _, _, _, am_up_eq _ _ _⟩)
      refine vt_catch (px88).2.1.1.2.2 cq_ok17 [] (30, 119, 120, 61) [] rfl (fun _ h => absurd h List.not_mem_nil) ⟨by decide, by decide, "java/lang/IllegalStateException", (am_at (k := 1041) (by decide +kernel) (by decide +kernel)), (am_at (k := 1043) (by decide +kernel) (by decide +kernel))⟩ ?_
      show am_V G _ _ _ _ _ 120 [(5, .int (nI t26)), (4, .int (nI (tok f n 0).2.1)), (3, .int (nI 0)), (0, .ref 1225), (1, .ref 1212), (2, .int (nI n))] [.ref 1228] (am_up (am_up M23 1229 (.inl (0, 4096, .inl g68))) 1225 (.inr (12, [.ref 1226, .ref 1227, .ref 1228, .ref 1213, .ref 1220, .ref 1212, .int (nI n), .int (nI (tok f n ((tok f n a27).2.2.1)).2.1), .int (nI (tok f n ((tok f n a27).2.2.1)).2.2.1), .int tk65, .int (nI 0), .long nu66, .ref 1229, .int (nI l67), .ref 1230, .int (nI 0), .int (nI (tok f n ((tok f n a27).2.2.1)).2.1), .ref 1231, .int (nI vb34), .int kn48, .int rk29, .ref 1232]))) nx 0 0
      refine v_astore_n (L1 := [(3, .ref 1228), (5, .int (nI t26)), (4, .int (nI (tok f n 0).2.1)), (0, .ref 1225), (1, .ref 1212), (2, .int (nI n))]) (am_Dk d_MR_read (k := 63) rfl) (by decide) rfl ?_
      refine v_iconst (v := (-1)) (am_Dk d_MR_read (k := 64) rfl) (by decide) ?_
      exact v_ireturn (am_Dk d_MR_read (k := 65) rfl) rfl rfl (by omega) (by omega) ⟨rfl, (fun i hi => (am_up_ne (show i ≠ 1225 from by omega)).trans ((am_up_ne (show i ≠ 1229 from by omega)).trans ((fr59 i hi)))), Or.inr ⟨_, rfl, px88, (rd_n10 hn (by omega) tr42 ee43.2 hk9 hk10)⟩⟩
  · have hk9 : ¬ (tok f n a27).1 = 9 := fun z => c60 ((tkR_eq hs56.1 (by omega)).2.2.2.2.1.mpr z)
    refine v_aload_n (am_Dk d_MR_read (k := 34) rfl) rfl ?_
    refine v_aload_n (am_Dk d_MR_read (k := 35) rfl) rfl ?_
    refine v_get (am_Dk d_MR_read (k := 36) rfl) f_MR_116 hr55 rfl ?_
    refine v_callV (rest := []) (As := [.int (nI ((tok f n a27).2.1))]) (mc' := 0) (ms' := 0) (am_Dk d_MR_read (k := 37) rfl) c_MR_126 (Or.inl ⟨_, _, _, _, _, hr55, cq_ok12⟩) (t_MR_bad G (d := 0) (by omega) hr55) (by omega) (by omega) (by omega) (by simp [Value.category]) rfl (fun v89 M90 n91 h92 => ?_) (fun _ _ _ h92 => ?_)
    rotate_left
    · exact absurd h92.1 (by simp)
    obtain ⟨h92, e93, e94⟩ := h92
    replace e93 := e93.symm
    replace e94 := e94.symm
    subst e93
    subst e94
    cases h92
    show am_V G _ _ _ _ _ 72 [(5, .int (nI t26)), (4, .int (nI (tok f n 0).2.1)), (3, .int (nI 0)), (0, .ref 1225), (1, .ref 1212), (2, .int (nI n))] [.ref 1228] (am_up M23 1225 (.inr (12, [.ref 1226, .ref 1227, .ref 1228, .ref 1213, .ref 1220, .ref 1212, .int (nI n), .int (nI ((tok f n a27).2.1)), .int (nI ((tok f n a27).2.2.1)), .int tk44, .int (nI 0), .long nu45, .ref 1229, .int (nI l46), .ref 1230, .int (nI 0), .int (nI ((tok f n a27).2.1)), .ref 1231, .int (nI vb34), .int kn48, .int rk29, .ref 1232]))) nx 0 0
    refine v_athrow (am_Dk d_MR_read (k := 38) rfl) ?_
    have px95 := (show PX f n (am_up M23 1225 (.inr (12, [.ref 1226, .ref 1227, .ref 1228, .ref 1213, .ref 1220, .ref 1212, .int (nI n), .int (nI ((tok f n a27).2.1)), .int (nI ((tok f n a27).2.2.1)), .int tk44, .int (nI 0), .long nu45, .ref 1229, .int (nI l46), .ref 1230, .int (nI 0), .int (nI ((tok f n a27).2.1)), .ref 1231, .int (nI vb34), .int kn48, .int rk29, .ref 1232]))) ((tok f n a27).2.1) from ⟨by omega, RS_rx (mb_fr hm50 (fun i hi => (am_up_ne (show i ≠ 1225 from by omega)).trans (rfl))) (RS_fr hR51 (fun i hi => (am_up_ne (show i ≠ 1225 from by omega)).trans (rfl))) ((am_up_ne (show 1229 ≠ 1225 from by decide)).trans (hw57)) hg58 ((am_up_ne (show 1230 ≠ 1225 from by decide)).trans (hS52)) ⟨_, (am_up_ne (show 1232 ≠ 1225 from by decide)).trans (hk54)⟩, _, _, _, _, _, _, _, _, _, _, am_up_eq _ _ _⟩)
    refine vt_catch (px95).2.1.1.2.2 cq_ok17 [] (30, 119, 120, 61) [] rfl (fun _ h => absurd h List.not_mem_nil) ⟨by decide, by decide, "java/lang/IllegalStateException", (am_at (k := 1041) (by decide +kernel) (by decide +kernel)), (am_at (k := 1043) (by decide +kernel) (by decide +kernel))⟩ ?_
    show am_V G _ _ _ _ _ 120 [(5, .int (nI t26)), (4, .int (nI (tok f n 0).2.1)), (3, .int (nI 0)), (0, .ref 1225), (1, .ref 1212), (2, .int (nI n))] [.ref 1228] (am_up M23 1225 (.inr (12, [.ref 1226, .ref 1227, .ref 1228, .ref 1213, .ref 1220, .ref 1212, .int (nI n), .int (nI ((tok f n a27).2.1)), .int (nI ((tok f n a27).2.2.1)), .int tk44, .int (nI 0), .long nu45, .ref 1229, .int (nI l46), .ref 1230, .int (nI 0), .int (nI ((tok f n a27).2.1)), .ref 1231, .int (nI vb34), .int kn48, .int rk29, .ref 1232]))) nx 0 0
    refine v_astore_n (L1 := [(3, .ref 1228), (5, .int (nI t26)), (4, .int (nI (tok f n 0).2.1)), (0, .ref 1225), (1, .ref 1212), (2, .int (nI n))]) (am_Dk d_MR_read (k := 63) rfl) (by decide) rfl ?_
    refine v_iconst (v := (-1)) (am_Dk d_MR_read (k := 64) rfl) (by decide) ?_
    exact v_ireturn (am_Dk d_MR_read (k := 65) rfl) rfl rfl (by omega) (by omega) ⟨rfl, (fun i hi => (am_up_ne (show i ≠ 1225 from by omega)).trans ((fr59 i hi))), Or.inr ⟨_, rfl, px95, (rd_n9 hn (by omega) tr42 ee43.2 hk9)⟩⟩
