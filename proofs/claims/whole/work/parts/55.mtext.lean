/-! RECKON AND TEXT OF THE REFERENCE (mine; rows laid by the walker) -/
set_option maxRecDepth 20000 in
theorem t_MM_reckon (G : am_G) {d nx : Nat} (hd : 7 ≤ d) {M : am_M} {LU : Nat → (Nat → Int32) → Option Int64} {sz pt ns tx vb e1 e2 : Nat} {W : Gho} {On : Nat → Nat} {Vx : Nat → Option (Nat × (Nat → Int32))} {Kd Nm Fi Ma Pa : Nat → Int32} {Nu : Nat → Int64} {T : Nat → Int32} {F : Nat → Nat} {Va : Nat → Int32} (hX : RSx LU M sz pt ns tx vb e1 e2 W On Vx (Kd, Nm, Fi, Ma, Pa, Nu) T F Va) (hsz : sz ≤ 4200) (hpt : pt ≤ 9000) (hns : ns ≤ 9000) (htx : tx ≤ 5000) (hvb : vb ≤ 4200) {c : Nat} {Vl : Nat → Nat} {Vg : Nat → Nat → Int32} {Vn : Nat → Int64} {P : Nat → Int32} {Q : Nat → Nat} (hT9 : tbl M c Vl Vg Vn P Q) (hLU : LU = luT c Vl Vg Vn) {th ta pl : Int32} {x0 x1 x2 x3 x4 x5 x6 x7 x8 x9 x10 x11 x12 : Value} (h12 : M 1225 = some (.inr (12, [.ref 1226, .ref 1227, .ref 1228, .ref 1213, .ref 1220, x12, x0, x1, x2, x3, x4, x5, .ref 1229, x6, .ref 1230, x7, x8, .ref 1231, x9, x10, x11, .ref 1232]))) {re : Int64} (h0 : M 1211 = some (.inr (9, [.int th, .int ta, .int pl, .int 0, .int (nI c), .ref 1212, .ref 1213, .ref 1220, .ref 1225, .ref 1233, .ref 1234, .ref 1235, .ref 1236, .ref 1237, .ref 1238, .long re]))) {Wk0 Sg0 : Nat → Int32} {Lf0 : Nat → Int64} (hW0 : M 1236 = some (.inl (1, 9000, .inl Wk0))) (hS0 : M 1237 = some (.inl (1, 9000, .inl Sg0))) (hL0 : M 1238 = some (.inl (2, 9000, .inr (.inl Lf0)))) {t : Nat} (ht : t < sz) : am_Tr G m_MM_reckon d 0 0 [.ref 1211, .int (nI t)] M nx (fun r M1 nx1 => ∃ Wk Sg Lf r1, r = .inl none ∧ nx1 = nx ∧ RKm M M1 th ta pl (nI c) Wk Sg Lf (W.1 t).1 r1 ∧ ((W.1 t).1 = 0 → r1 = (W.1 t).2)) := by
  refine am_TrOf (by decide) (Nat.le_of_ble_eq_true rfl) ?_
  show am_V G _ _ _ _ _ 0 [(0, .ref 1211), (1, .int (nI t))] [] M nx 0 0
  refine v_iconst (v := 0) (am_Dk d_MM_reckon (k := 0) rfl) (by decide) ?_
  refine v_istore_n (L1 := [(2, .int 0), (0, .ref 1211), (1, .int (nI t))]) (am_Dk d_MM_reckon (k := 1) rfl) (by decide) rfl ?_
  refine v_aload_n (am_Dk d_MM_reckon (k := 2) rfl) rfl ?_
  refine v_get (am_Dk d_MM_reckon (k := 3) rfl) f_MM_52 h0 rfl ?_
  refine v_iconst (v := 0) (am_Dk d_MM_reckon (k := 4) rfl) (by decide) ?_
  refine v_iload_n (am_Dk d_MM_reckon (k := 5) rfl) rfl ?_
  refine v_iast (am_Dk d_MM_reckon (k := 6) rfl) hW0 rfl (vp_in_nI (n := 0) (by omega) (by omega)) ?_
  rw [show Int32.toNatClampNeg 0 = 0 from by decide]
  refine v_aload_n (am_Dk d_MM_reckon (k := 7) rfl) rfl ?_
  have m1 : (am_up M 1236 (.inl (1, 9000, .inl (upd Wk0 0 (nI t))))) 1211 = some (.inr (9, [.int th, .int ta, .int pl, .int 0, .int (nI c), .ref 1212, .ref 1213, .ref 1220, .ref 1225, .ref 1233, .ref 1234, .ref 1235, .ref 1236, .ref 1237, .ref 1238, .long re])) := (am_up_ne (show 1211 ≠ 1236 from by decide)).trans (h0)
  refine v_get (am_Dk d_MM_reckon (k := 8) rfl) f_MM_55 m1 rfl ?_
  refine v_iconst (v := 0) (am_Dk d_MM_reckon (k := 9) rfl) (by decide) ?_
  refine v_iconst (v := 0) (am_Dk d_MM_reckon (k := 10) rfl) (by decide) ?_
  have m2 : (am_up M 1236 (.inl (1, 9000, .inl (upd Wk0 0 (nI t))))) 1237 = some (.inl (1, 9000, .inl Sg0)) := (am_up_ne (show 1237 ≠ 1236 from by decide)).trans (hS0)
  refine v_iast (am_Dk d_MM_reckon (k := 11) rfl) m2 rfl (vp_in_nI (n := 0) (by omega) (by omega)) ?_
  rw [show Int32.toNatClampNeg 0 = 0 from by decide]
  refine v_drop (l_reck G hd hX hsz hpt hns htx hvb hT9 hLU h12 (t + 1) t (by omega) ht _ (upd Wk0 0 (nI t)) (upd Sg0 0 0) Lf0 re 0 ⟨(am_up_ne (show 1236 ≠ 1237 from by decide)).trans (am_up_eq _ _ _), am_up_eq _ _ _, (am_up_ne (show 1238 ≠ 1237 from by decide)).trans ((am_up_ne (show 1238 ≠ 1236 from by decide)).trans (hL0)), (am_up_ne (show 1211 ≠ 1237 from by decide)).trans ((am_up_ne (show 1211 ≠ 1236 from by decide)).trans (h0)), fun i hi => (am_up_ne (show i ≠ 1237 from by omega)).trans ((am_up_ne (show i ≠ 1236 from by omega)).trans (rfl))⟩ (by omega) (upd_at _ _ _) (upd_at _ _ _) ?_ ?_) (by simp [nI_0])
  · intro M3 Wk1 Sg1 Lf1 hR3 hag hz
    rw [show (nI 0 + (-1) : Int32) = -1 from by decide]
    refine v_iload_n (am_Dk d_MM_reckon (k := 12) rfl) rfl ?_
    refine v_if_lt (tgt := 282) (am_Dk d_MM_reckon (k := 13) rfl) (by decide) (fun c1 => ?_) (fun c1 => ?_)
    · exact v_return (am_Dk d_MM_reckon (k := 159) rfl) rfl (by omega) (by omega) ⟨Wk1, Sg1, Lf1, _, rfl, rfl, by rw [hz]; exact hR3, fun _ => rfl⟩
    · exact absurd (by decide) c1
  · intro M3 Wk1 Sg1 Lf1 r1 j e hR3 he hne
    refine v_iload_n (am_Dk d_MM_reckon (k := 12) rfl) rfl ?_
    refine v_if_lt (tgt := 282) (am_Dk d_MM_reckon (k := 13) rfl) (by decide) (fun c1 => ?_) (fun c1 => ?_)
    · exact v_return (am_Dk d_MM_reckon (k := 159) rfl) rfl (by omega) (by omega) ⟨Wk1, Sg1, Lf1, r1, rfl, rfl, by rw [← he]; exact hR3, fun z => absurd (he.trans z) hne⟩
    · refine v_aload_n (am_Dk d_MM_reckon (k := 14) rfl) rfl ?_
      refine v_get (am_Dk d_MM_reckon (k := 15) rfl) f_MM_123 hR3.2.2.2.1 rfl ?_
      refine v_if_ne (tgt := 282) (am_Dk d_MM_reckon (k := 16) rfl) (by decide) (fun c2 => ?_) (fun c2 => ?_)
      · exact v_return (am_Dk d_MM_reckon (k := 159) rfl) rfl (by omega) (by omega) ⟨Wk1, Sg1, Lf1, r1, rfl, rfl, by rw [← he]; exact hR3, fun z => absurd (he.trans z) hne⟩
      · exact absurd c2 hne
theorem rx_fr9 {f : Nat → Int32} {M M1 : am_M} (h : rx f M) (hf : ∀ i, ¬ i = 1211 → M1 i = M i) : rx f M1 := by
  obtain ⟨a, ⟨A, sz, pt, b⟩, ⟨s9, t9, c⟩, ⟨T, d, d2⟩, ⟨A9, e⟩, ⟨X, e2⟩, ⟨Y, e3⟩, ⟨g, g1, g2⟩, ⟨S, g3⟩, ⟨V, g4⟩, ⟨kc, g5⟩⟩ := h
  exact ⟨mb_fr a (fun i hi => hf i (by omega)), ⟨A, sz, pt, ARs_fr b (fun i h1 h2 => hf i (by omega))⟩, ⟨s9, t9, (hf _ (by omega)).trans c⟩, ⟨T, (hf _ (by omega)).trans d, d2⟩, ⟨A9, (hf _ (by omega)).trans e⟩, ⟨X, (hf _ (by omega)).trans e2⟩, ⟨Y, (hf _ (by omega)).trans e3⟩, ⟨g, (hf _ (by omega)).trans g1, g2⟩, ⟨S, (hf _ (by omega)).trans g3⟩, ⟨V, (hf _ (by omega)).trans g4⟩, ⟨kc, (hf _ (by omega)).trans g5⟩⟩
def rcell (M : am_M) : Prop := ∃ (sv : Value) (n9 a9 b9 t9 o9 l9 p9 q9 v9 k9 r9 : Int32) (u9 : Int64), M 1225 = some (.inr (12, [.ref 1226, .ref 1227, .ref 1228, .ref 1213, .ref 1220, sv, .int n9, .int a9, .int b9, .int t9, .int o9, .long u9, .ref 1229, .int l9, .ref 1230, .int p9, .int q9, .ref 1231, .int v9, .int k9, .int r9, .ref 1232]))
set_option maxRecDepth 20000 in
theorem t_MM_text (G : am_G) {d nx : Nat} (hd : 411 ≤ d) {M : am_M} {f : Nat → Int32} {n : Nat} {LU : Nat → (Nat → Int32) → Option Int64} {lu : Nat → Nat → Option Int64} (hb : tbB f) (hn : n ≤ 4096) (hU : luOk f n LU lu) {th pl er va : Int32} {re : Int64} (h0 : M 1211 = some (.inr (9, [.int th, .int (nI n), .int pl, .int er, .int va, .ref 1212, .ref 1213, .ref 1220, .ref 1225, .ref 1233, .ref 1234, .ref 1235, .ref 1236, .ref 1237, .ref 1238, .long re]))) (hx : rx f M) (hrc : rcell M) : am_Tr G m_MM_text d 0 0 [.ref 1211] M nx (fun r M1 nx1 => nx1 = nx ∧ (∀ i, i < 1211 ∨ 1232 < i → M1 i = M i) ∧ ((∃ t sz pt ns tx vb e1 e2 W On Vx, r = .inl (some (.int (nI t))) ∧ RS LU M1 sz pt ns tx vb e1 e2 W On Vx ∧ rx f M1 ∧ rcell M1 ∧ M1 1211 = some (.inr (9, [.int 0, .int 0, .int (-1), .int 0, .int va, .ref 1212, .ref 1213, .ref 1220, .ref 1225, .ref 1233, .ref 1234, .ref 1235, .ref 1236, .ref 1237, .ref 1238, .long re])) ∧ t < sz ∧ sz ≤ 4096 ∧ pt ≤ sz ∧ ns ≤ 4100 ∧ tx ≤ 4100 ∧ vb ≤ 4096 ∧ rdOk f n lu W t sz) ∨ ∃ w, w ≤ n ∧ r = .inl (some (.int (-1))) ∧ rx f M1 ∧ rcell M1 ∧ M1 1211 = some (.inr (9, [.int 0, .int 0, .int (nI w), .int 0, .int va, .ref 1212, .ref 1213, .ref 1220, .ref 1225, .ref 1233, .ref 1234, .ref 1235, .ref 1236, .ref 1237, .ref 1238, .long re])) ∧ rdBad f n lu w)) := by
  refine am_TrOf (by decide) (Nat.le_of_ble_eq_true rfl) ?_
  show am_V G _ _ _ _ _ 0 [(0, .ref 1211)] [] M nx 0 0
  obtain ⟨sv, n9, a9, b9, t9, o9, l9, p9, q9, v9, k9, r9, u9, hr⟩ := hrc
  obtain ⟨hm, ⟨A, sz0, pt0, hA⟩, ⟨s9, tt9, hN⟩, ⟨T, hT, hTB⟩, ⟨A9, hF⟩, ⟨X, hXx⟩, ⟨Y, hY⟩, ⟨g, hw, hg⟩, ⟨S, hS⟩, ⟨Va, hVa⟩, ⟨kc, hkc⟩⟩ := hx
  refine v_aload_n (am_Dk d_MM_text (k := 0) rfl) rfl ?_
  refine v_iconst (v := 0) (am_Dk d_MM_text (k := 1) rfl) (by decide) ?_
  refine v_put (am_Dk d_MM_text (k := 2) rfl) f_MM_64 h0 (Nat.le_of_ble_eq_true rfl) rfl rfl ?_
  refine v_aload_n (am_Dk d_MM_text (k := 3) rfl) rfl ?_
  have m1 : (am_up M 1211 (.inr (9, [.int 0, .int (nI n), .int pl, .int er, .int va, .ref 1212, .ref 1213, .ref 1220, .ref 1225, .ref 1233, .ref 1234, .ref 1235, .ref 1236, .ref 1237, .ref 1238, .long re]))) 1211 = some (.inr (9, [.int 0, .int (nI n), .int pl, .int er, .int va, .ref 1212, .ref 1213, .ref 1220, .ref 1225, .ref 1233, .ref 1234, .ref 1235, .ref 1236, .ref 1237, .ref 1238, .long re])) := am_up_eq _ _ _
  refine v_get (am_Dk d_MM_text (k := 4) rfl) f_MM_61 m1 rfl ?_
  refine v_istore_n (L1 := [(1, .int (nI n)), (0, .ref 1211)]) (am_Dk d_MM_text (k := 5) rfl) (by decide) rfl ?_
  refine v_aload_n (am_Dk d_MM_text (k := 6) rfl) rfl ?_
  refine v_iconst (v := 0) (am_Dk d_MM_text (k := 7) rfl) (by decide) ?_
  refine v_put (am_Dk d_MM_text (k := 8) rfl) f_MM_61 m1 (Nat.le_of_ble_eq_true rfl) rfl rfl ?_
  rw [am_uu0 (a := 1211)]
  refine v_aload_n (am_Dk d_MM_text (k := 9) rfl) rfl ?_
  have m2 : (am_up M 1211 (.inr (9, [.int 0, .int 0, .int pl, .int er, .int va, .ref 1212, .ref 1213, .ref 1220, .ref 1225, .ref 1233, .ref 1234, .ref 1235, .ref 1236, .ref 1237, .ref 1238, .long re]))) 1211 = some (.inr (9, [.int 0, .int 0, .int pl, .int er, .int va, .ref 1212, .ref 1213, .ref 1220, .ref 1225, .ref 1233, .ref 1234, .ref 1235, .ref 1236, .ref 1237, .ref 1238, .long re])) := am_up_eq _ _ _
  refine v_get (am_Dk d_MM_text (k := 10) rfl) f_MM_20 m2 rfl ?_
  refine v_iconst (v := 0) (am_Dk d_MM_text (k := 11) rfl) (by decide) ?_
  have m3 : (am_up M 1211 (.inr (9, [.int 0, .int 0, .int pl, .int er, .int va, .ref 1212, .ref 1213, .ref 1220, .ref 1225, .ref 1233, .ref 1234, .ref 1235, .ref 1236, .ref 1237, .ref 1238, .long re]))) 1213 = some (.inr (10, [.ref 1214, .ref 1215, .ref 1216, .ref 1217, .ref 1218, .ref 1219, .int (nI sz0), .int (nI pt0)])) := (am_up_ne (show 1213 ≠ 1211 from by decide)).trans (hA.1)
  refine v_put (am_Dk d_MM_text (k := 12) rfl) f_MM_155 m3 (Nat.le_of_ble_eq_true rfl) rfl rfl ?_
  refine v_aload_n (am_Dk d_MM_text (k := 13) rfl) rfl ?_
  have m4 : (am_up (am_up M 1211 (.inr (9, [.int 0, .int 0, .int pl, .int er, .int va, .ref 1212, .ref 1213, .ref 1220, .ref 1225, .ref 1233, .ref 1234, .ref 1235, .ref 1236, .ref 1237, .ref 1238, .long re]))) 1213 (.inr (10, [.ref 1214, .ref 1215, .ref 1216, .ref 1217, .ref 1218, .ref 1219, .int 0, .int (nI pt0)]))) 1211 = some (.inr (9, [.int 0, .int 0, .int pl, .int er, .int va, .ref 1212, .ref 1213, .ref 1220, .ref 1225, .ref 1233, .ref 1234, .ref 1235, .ref 1236, .ref 1237, .ref 1238, .long re])) := (am_up_ne (show 1211 ≠ 1213 from by decide)).trans (am_up_eq _ _ _)
  refine v_get (am_Dk d_MM_text (k := 14) rfl) f_MM_20 m4 rfl ?_
  refine v_iconst (v := 0) (am_Dk d_MM_text (k := 15) rfl) (by decide) ?_
  have m5 : (am_up (am_up M 1211 (.inr (9, [.int 0, .int 0, .int pl, .int er, .int va, .ref 1212, .ref 1213, .ref 1220, .ref 1225, .ref 1233, .ref 1234, .ref 1235, .ref 1236, .ref 1237, .ref 1238, .long re]))) 1213 (.inr (10, [.ref 1214, .ref 1215, .ref 1216, .ref 1217, .ref 1218, .ref 1219, .int 0, .int (nI pt0)]))) 1213 = some (.inr (10, [.ref 1214, .ref 1215, .ref 1216, .ref 1217, .ref 1218, .ref 1219, .int 0, .int (nI pt0)])) := am_up_eq _ _ _
  refine v_put (am_Dk d_MM_text (k := 16) rfl) f_MM_158 m5 (Nat.le_of_ble_eq_true rfl) rfl rfl ?_
  rw [am_uu0 (a := 1213)]
  refine v_aload_n (am_Dk d_MM_text (k := 17) rfl) rfl ?_
  have m6 : (am_up (am_up M 1211 (.inr (9, [.int 0, .int 0, .int pl, .int er, .int va, .ref 1212, .ref 1213, .ref 1220, .ref 1225, .ref 1233, .ref 1234, .ref 1235, .ref 1236, .ref 1237, .ref 1238, .long re]))) 1213 (.inr (10, [.ref 1214, .ref 1215, .ref 1216, .ref 1217, .ref 1218, .ref 1219, .int 0, .int 0]))) 1211 = some (.inr (9, [.int 0, .int 0, .int pl, .int er, .int va, .ref 1212, .ref 1213, .ref 1220, .ref 1225, .ref 1233, .ref 1234, .ref 1235, .ref 1236, .ref 1237, .ref 1238, .long re])) := (am_up_ne (show 1211 ≠ 1213 from by decide)).trans (am_up_eq _ _ _)
  refine v_get (am_Dk d_MM_text (k := 18) rfl) f_MM_27 m6 rfl ?_
  have m7 : (am_up (am_up M 1211 (.inr (9, [.int 0, .int 0, .int pl, .int er, .int va, .ref 1212, .ref 1213, .ref 1220, .ref 1225, .ref 1233, .ref 1234, .ref 1235, .ref 1236, .ref 1237, .ref 1238, .long re]))) 1213 (.inr (10, [.ref 1214, .ref 1215, .ref 1216, .ref 1217, .ref 1218, .ref 1219, .int 0, .int 0]))) 1220 = some (.inr (11, [.ref 1221, .ref 1222, .ref 1223, .ref 1224, .int s9, .int tt9])) := (am_up_ne (show 1220 ≠ 1213 from by decide)).trans ((am_up_ne (show 1220 ≠ 1211 from by decide)).trans (hN))
  refine v_callV (rest := []) (As := []) (mc' := 0) (ms' := 0) (am_Dk d_MM_text (k := 19) rfl) c_MM_161 (Or.inl ⟨_, _, _, _, _, m7, cq_ok11⟩) (t_MN_clear G (d := 0) (by omega) m7 ((am_up_ne (show 1221 ≠ 1213 from by decide)).trans ((am_up_ne (show 1221 ≠ 1211 from by decide)).trans (hT))) hTB ((am_up_ne (show 1222 ≠ 1213 from by decide)).trans ((am_up_ne (show 1222 ≠ 1211 from by decide)).trans (hF))) ((am_up_ne (show 1223 ≠ 1213 from by decide)).trans ((am_up_ne (show 1223 ≠ 1211 from by decide)).trans (hXx))) ((am_up_ne (show 1224 ≠ 1213 from by decide)).trans ((am_up_ne (show 1224 ≠ 1211 from by decide)).trans (hY)))) (by omega) (by omega) (by omega) (by simp [Value.category]) rfl (fun v8 M9 n10 h11 => ?_) (fun _ _ _ h11 => ?_)
  rotate_left
  · exact absurd h11.1 (by simp)
  obtain ⟨h11, hNMc, hfc, hx9⟩ := h11
  cases h11
  replace hx9 := hx9.symm
  subst hx9
  have b12 : M9 1211 = some (.inr (9, [.int 0, .int 0, .int pl, .int er, .int va, .ref 1212, .ref 1213, .ref 1220, .ref 1225, .ref 1233, .ref 1234, .ref 1235, .ref 1236, .ref 1237, .ref 1238, .long re])) := (hfc 1211 (by omega)).trans ((am_up_ne (show 1211 ≠ 1213 from by decide)).trans (am_up_eq _ _ _))
  have b13 : M9 1213 = some (.inr (10, [.ref 1214, .ref 1215, .ref 1216, .ref 1217, .ref 1218, .ref 1219, .int 0, .int 0])) := (hfc 1213 (by omega)).trans (am_up_eq _ _ _)
  have b14 : M9 1225 = some (.inr (12, [.ref 1226, .ref 1227, .ref 1228, .ref 1213, .ref 1220, sv, .int n9, .int a9, .int b9, .int t9, .int o9, .long u9, .ref 1229, .int l9, .ref 1230, .int p9, .int q9, .ref 1231, .int v9, .int k9, .int r9, .ref 1232])) := (hfc 1225 (by omega)).trans ((am_up_ne (show 1225 ≠ 1213 from by decide)).trans ((am_up_ne (show 1225 ≠ 1211 from by decide)).trans (hr)))
  have hfr1 : ∀ i, ¬ (i = 1211 ∨ i = 1213 ∨ i = 1225 ∨ (1220 ≤ i ∧ i ≤ 1224)) → M9 i = M i := fun i hi => (hfc i (by omega)).trans ((am_up_ne (show i ≠ 1213 from by omega)).trans ((am_up_ne (show i ≠ 1211 from by omega)).trans (rfl)))
  show am_V G _ _ _ _ _ 38 [(1, .int (nI n)), (0, .ref 1211)] [] M9 nx 0 0
  refine v_aload_n (am_Dk d_MM_text (k := 20) rfl) rfl ?_
  refine v_get (am_Dk d_MM_text (k := 21) rfl) f_MM_36 b12 rfl ?_
  refine v_iconst (v := 0) (am_Dk d_MM_text (k := 22) rfl) (by decide) ?_
  refine v_put (am_Dk d_MM_text (k := 23) rfl) f_MM_164 b14 (Nat.le_of_ble_eq_true rfl) rfl rfl ?_
  refine v_aload_n (am_Dk d_MM_text (k := 24) rfl) rfl ?_
  refine v_iconst (v := 0) (am_Dk d_MM_text (k := 25) rfl) (by decide) ?_
  have m15 : (am_up M9 1225 (.inr (12, [.ref 1226, .ref 1227, .ref 1228, .ref 1213, .ref 1220, sv, .int n9, .int a9, .int b9, .int t9, .int o9, .long u9, .ref 1229, .int l9, .ref 1230, .int p9, .int q9, .ref 1231, .int 0, .int k9, .int r9, .ref 1232]))) 1211 = some (.inr (9, [.int 0, .int 0, .int pl, .int er, .int va, .ref 1212, .ref 1213, .ref 1220, .ref 1225, .ref 1233, .ref 1234, .ref 1235, .ref 1236, .ref 1237, .ref 1238, .long re])) := (am_up_ne (show 1211 ≠ 1225 from by decide)).trans (b12)
  refine v_put (am_Dk d_MM_text (k := 26) rfl) f_MM_123 m15 (Nat.le_of_ble_eq_true rfl) rfl rfl ?_
  refine v_aload_n (am_Dk d_MM_text (k := 27) rfl) rfl ?_
  have m16 : (am_up (am_up M9 1225 (.inr (12, [.ref 1226, .ref 1227, .ref 1228, .ref 1213, .ref 1220, sv, .int n9, .int a9, .int b9, .int t9, .int o9, .long u9, .ref 1229, .int l9, .ref 1230, .int p9, .int q9, .ref 1231, .int 0, .int k9, .int r9, .ref 1232]))) 1211 (.inr (9, [.int 0, .int 0, .int pl, .int 0, .int va, .ref 1212, .ref 1213, .ref 1220, .ref 1225, .ref 1233, .ref 1234, .ref 1235, .ref 1236, .ref 1237, .ref 1238, .long re]))) 1211 = some (.inr (9, [.int 0, .int 0, .int pl, .int 0, .int va, .ref 1212, .ref 1213, .ref 1220, .ref 1225, .ref 1233, .ref 1234, .ref 1235, .ref 1236, .ref 1237, .ref 1238, .long re])) := am_up_eq _ _ _
  refine v_get (am_Dk d_MM_text (k := 28) rfl) f_MM_36 m16 rfl ?_
  refine v_aload_n (am_Dk d_MM_text (k := 29) rfl) rfl ?_
  refine v_get (am_Dk d_MM_text (k := 30) rfl) f_MM_13 m16 rfl ?_
  refine v_iload_n (am_Dk d_MM_text (k := 31) rfl) rfl ?_
  have m17 : (am_up (am_up M9 1225 (.inr (12, [.ref 1226, .ref 1227, .ref 1228, .ref 1213, .ref 1220, sv, .int n9, .int a9, .int b9, .int t9, .int o9, .long u9, .ref 1229, .int l9, .ref 1230, .int p9, .int q9, .ref 1231, .int 0, .int k9, .int r9, .ref 1232]))) 1211 (.inr (9, [.int 0, .int 0, .int pl, .int 0, .int va, .ref 1212, .ref 1213, .ref 1220, .ref 1225, .ref 1233, .ref 1234, .ref 1235, .ref 1236, .ref 1237, .ref 1238, .long re]))) 1225 = some (.inr (12, [.ref 1226, .ref 1227, .ref 1228, .ref 1213, .ref 1220, sv, .int n9, .int a9, .int b9, .int t9, .int o9, .long u9, .ref 1229, .int l9, .ref 1230, .int p9, .int q9, .ref 1231, .int 0, .int k9, .int r9, .ref 1232])) := (am_up_ne (show 1225 ≠ 1211 from by decide)).trans (am_up_eq _ _ _)
  refine v_callV (rest := []) (As := [.ref 1212, .int (nI n)]) (mc' := 0) (ms' := 0) (am_Dk d_MM_text (k := 32) rfl) c_MM_167 (Or.inl ⟨_, _, _, _, _, m17, cq_ok12⟩) (t_MR_read G (LU := LU) (lu := lu) (d := 410) (by omega) hb hn hU m17 (mb_fr hm (fun i hi => (am_up_ne (show i ≠ 1211 from by omega)).trans ((am_up_ne (show i ≠ 1225 from by omega)).trans ((hfr1 i (by omega)))))) (show ARs (am_up (am_up M9 1225 (.inr (12, [.ref 1226, .ref 1227, .ref 1228, .ref 1213, .ref 1220, sv, .int n9, .int a9, .int b9, .int t9, .int o9, .long u9, .ref 1229, .int l9, .ref 1230, .int p9, .int q9, .ref 1231, .int 0, .int k9, .int r9, .ref 1232]))) 1211 (.inr (9, [.int 0, .int 0, .int pl, .int 0, .int va, .ref 1212, .ref 1213, .ref 1220, .ref 1225, .ref 1233, .ref 1234, .ref 1235, .ref 1236, .ref 1237, .ref 1238, .long re]))) A 0 0 from ⟨(am_up_ne (show 1213 ≠ 1211 from by decide)).trans ((am_up_ne (show 1213 ≠ 1225 from by decide)).trans (b13)), ((am_up_ne (show 1214 ≠ 1211 from by decide)).trans ((am_up_ne (show 1214 ≠ 1225 from by decide)).trans (((hfr1 1214 (by omega)).trans hA.2.1)))), ((am_up_ne (show 1215 ≠ 1211 from by decide)).trans ((am_up_ne (show 1215 ≠ 1225 from by decide)).trans (((hfr1 1215 (by omega)).trans hA.2.2.1)))), ((am_up_ne (show 1216 ≠ 1211 from by decide)).trans ((am_up_ne (show 1216 ≠ 1225 from by decide)).trans (((hfr1 1216 (by omega)).trans hA.2.2.2.1)))), ((am_up_ne (show 1217 ≠ 1211 from by decide)).trans ((am_up_ne (show 1217 ≠ 1225 from by decide)).trans (((hfr1 1217 (by omega)).trans hA.2.2.2.2.1)))), ((am_up_ne (show 1218 ≠ 1211 from by decide)).trans ((am_up_ne (show 1218 ≠ 1225 from by decide)).trans (((hfr1 1218 (by omega)).trans hA.2.2.2.2.2.1)))), ((am_up_ne (show 1219 ≠ 1211 from by decide)).trans ((am_up_ne (show 1219 ≠ 1225 from by decide)).trans (((hfr1 1219 (by omega)).trans hA.2.2.2.2.2.2))))⟩) (NMs_fr hNMc (fun i z1 z2 => (am_up_ne (show i ≠ 1211 from by omega)).trans ((am_up_ne (show i ≠ 1225 from by omega)).trans (rfl)))) ((am_up_ne (show 1231 ≠ 1211 from by decide)).trans ((am_up_ne (show 1231 ≠ 1225 from by decide)).trans (((hfr1 1231 (by omega)).trans hVa)))) ((am_up_ne (show 1230 ≠ 1211 from by decide)).trans ((am_up_ne (show 1230 ≠ 1225 from by decide)).trans (((hfr1 1230 (by omega)).trans hS)))) ((am_up_ne (show 1232 ≠ 1211 from by decide)).trans ((am_up_ne (show 1232 ≠ 1225 from by decide)).trans (((hfr1 1232 (by omega)).trans hkc)))) ((am_up_ne (show 1229 ≠ 1211 from by decide)).trans ((am_up_ne (show 1229 ≠ 1225 from by decide)).trans (((hfr1 1229 (by omega)).trans hw)))) hg) (by omega) (by omega) (by omega) (by simp [Value.category]) rfl (fun v18 M19 n20 h21 => ?_) (fun _ _ _ h21 => ?_)
  rotate_left
  · obtain ⟨_, _, hT9⟩ := h21; rcases hT9 with ⟨_, _, _, _, _, _, _, _, _, _, _, hx9, _⟩ | ⟨_, hx9, _⟩ <;> cases hx9
  obtain ⟨hx9, hpf, hT9⟩ := h21
  replace hx9 := hx9.symm
  subst hx9
  have q11 : M19 1211 = some (.inr (9, [.int 0, .int 0, .int pl, .int 0, .int va, .ref 1212, .ref 1213, .ref 1220, .ref 1225, .ref 1233, .ref 1234, .ref 1235, .ref 1236, .ref 1237, .ref 1238, .long re])) := (hpf 1211 (by omega)).trans (am_up_eq _ _ _)
  have hfr2 : ∀ i, i < 1211 ∨ 1232 < i → M19 i = M i := fun i hi => (hpf i (by omega)).trans ((am_up_ne (show i ≠ 1211 from by omega)).trans ((am_up_ne (show i ≠ 1225 from by omega)).trans ((hfr1 i (by omega)))))
  rcases hT9 with ⟨t, sz, pt, ns, tx, vb, e1, e2, W, On, Vx, hv, hR, hrx, ⟨a7, b7, tk7, op7, nu7, l7, tp7, kn7, rk7, hrc⟩, z1, z2, z3, z4, z5, z6, hok⟩ | ⟨wB, hv, ⟨hwn, hrx, a7, b7, tk7, op7, nu7, l7, tp7, vb7, kn7, rk7, hrc⟩, hbad⟩
  · cases hv
    replace hrc : M19 1225 = some (.inr (12, [.ref 1226, .ref 1227, .ref 1228, .ref 1213, .ref 1220, .ref 1212, .int (nI n), .int (nI a7), .int (nI b7), .int tk7, .int (nI op7), .long nu7, .ref 1229, .int (nI l7), .ref 1230, .int (nI tp7), .int (-1), .ref 1231, .int (nI vb), .int kn7, .int rk7, .ref 1232])) := hrc
    show am_V G _ _ _ _ _ 63 [(1, .int (nI n)), (0, .ref 1211)] [.int (nI t)] M19 nx 0 0
    refine v_istore_n (L1 := [(2, .int (nI t)), (1, .int (nI n)), (0, .ref 1211)]) (am_Dk d_MM_text (k := 33) rfl) (by decide) rfl ?_
    refine v_aload_n (am_Dk d_MM_text (k := 34) rfl) rfl ?_
    refine v_aload_n (am_Dk d_MM_text (k := 35) rfl) rfl ?_
    refine v_get (am_Dk d_MM_text (k := 36) rfl) f_MM_36 q11 rfl ?_
    refine v_get (am_Dk d_MM_text (k := 37) rfl) f_MM_171 hrc rfl ?_
    refine v_put (am_Dk d_MM_text (k := 38) rfl) f_MM_9 q11 (Nat.le_of_ble_eq_true rfl) rfl rfl ?_
    refine v_iload_n (am_Dk d_MM_text (k := 39) rfl) rfl ?_
    exact v_ireturn (am_Dk d_MM_text (k := 40) rfl) rfl rfl (by omega) (by omega) ⟨rfl, fun i hi => (am_up_ne (show i ≠ 1211 from by omega)).trans ((hfr2 i hi)), Or.inl ⟨t, sz, pt, ns, tx, vb, e1, e2, W, On, Vx, rfl, RS_fr hR (fun i hi => (am_up_ne (show i ≠ 1211 from by omega)).trans (rfl)), rx_fr9 hrx (fun i hi => (am_up_ne (show i ≠ 1211 from by omega)).trans (rfl)), ⟨_, _, _, _, _, _, _, _, _, _, _, _, _, (am_up_ne (show 1225 ≠ 1211 from by decide)).trans (hrc)⟩, am_up_eq _ _ _, z1, z2, z3, z4, z5, z6, hok⟩⟩
  · cases hv
    replace hrc : M19 1225 = some (.inr (12, [.ref 1226, .ref 1227, .ref 1228, .ref 1213, .ref 1220, .ref 1212, .int (nI n), .int (nI a7), .int (nI b7), .int tk7, .int (nI op7), .long nu7, .ref 1229, .int (nI l7), .ref 1230, .int (nI tp7), .int (nI wB), .ref 1231, .int (nI vb7), .int kn7, .int rk7, .ref 1232])) := hrc
    show am_V G _ _ _ _ _ 63 [(1, .int (nI n)), (0, .ref 1211)] [.int (-1)] M19 nx 0 0
    refine v_istore_n (L1 := [(2, .int (-1)), (1, .int (nI n)), (0, .ref 1211)]) (am_Dk d_MM_text (k := 33) rfl) (by decide) rfl ?_
    refine v_aload_n (am_Dk d_MM_text (k := 34) rfl) rfl ?_
    refine v_aload_n (am_Dk d_MM_text (k := 35) rfl) rfl ?_
    refine v_get (am_Dk d_MM_text (k := 36) rfl) f_MM_36 q11 rfl ?_
    refine v_get (am_Dk d_MM_text (k := 37) rfl) f_MM_171 hrc rfl ?_
    refine v_put (am_Dk d_MM_text (k := 38) rfl) f_MM_9 q11 (Nat.le_of_ble_eq_true rfl) rfl rfl ?_
    refine v_iload_n (am_Dk d_MM_text (k := 39) rfl) rfl ?_
    exact v_ireturn (am_Dk d_MM_text (k := 40) rfl) rfl rfl (by omega) (by omega) ⟨rfl, fun i hi => (am_up_ne (show i ≠ 1211 from by omega)).trans ((hfr2 i hi)), Or.inr ⟨wB, hwn, rfl, rx_fr9 hrx (fun i hi => (am_up_ne (show i ≠ 1211 from by omega)).trans (rfl)), ⟨_, _, _, _, _, _, _, _, _, _, _, _, _, (am_up_ne (show 1225 ≠ 1211 from by decide)).trans (hrc)⟩, am_up_eq _ _ _, hbad⟩⟩
