/-! THE REFERENCE'S READER, SMALL METHODS (mine; rows laid by the walker) -/
def lk (f : Nat → Int32) (n i : Nat) : Int32 := if i < n then f i else -1
set_option maxRecDepth 20000 in
theorem t_MR_look (G : am_G) {d nx : Nat} (hd : 0 ≤ d) {M : am_M} {n : Nat} {at9 be tk op le tp pl vd kn rk : Int32} {nu : Int64} (hr : M 1225 = some (.inr (12, [.ref 1226, .ref 1227, .ref 1228, .ref 1213, .ref 1220, .ref 1212, .int (nI n), .int at9, .int be, .int tk, .int op, .long nu, .ref 1229, .int le, .ref 1230, .int tp, .int pl, .ref 1231, .int vd, .int kn, .int rk, .ref 1232]))) {f : Nat → Int32} (h2 : M 1212 = some (.inl (0, 4096, .inl f))) (hn : n ≤ 4096) {i : Nat} (hi : i < 100000) : am_Tr G m_MR_look d 0 0 [.ref 1225, .int (nI i)] M nx (fun r M1 nx1 => r = .inl (some (.int (lk f n i))) ∧ M1 = M ∧ nx1 = nx) := by
  refine am_TrOf (by decide) (Nat.le_of_ble_eq_true rfl) ?_
  show am_V G _ _ _ _ _ 0 [(0, .ref 1225), (1, .int (nI i))] [] M nx 0 0
  refine v_iload_n (am_Dk d_MR_look (k := 0) rfl) rfl ?_
  refine v_aload_n (am_Dk d_MR_look (k := 1) rfl) rfl ?_
  refine v_get (am_Dk d_MR_look (k := 2) rfl) f_MR_92 hr rfl ?_
  refine v_icmp_ge (tgt := 17) (am_Dk d_MR_look (k := 3) rfl) (by decide) (fun c1 => ?_) (fun c1 => ?_)
  · have Nc1 := (nI_leI (a := n) (b := i) (by omega) (by omega)).mp c1
    refine v_iconst (v := (-1)) (am_Dk d_MR_look (k := 9) rfl) (by decide) ?_
    exact v_ireturn (am_Dk d_MR_look (k := 10) rfl) rfl rfl (by omega) (by omega) ⟨by rw [lk, if_neg (by omega)], rfl, rfl⟩
  · have Nc1 : ¬ n ≤ i := fun z => c1 ((nI_leI (a := n) (b := i) (by omega) (by omega)).mpr z)
    refine v_aload_n (am_Dk d_MR_look (k := 4) rfl) rfl ?_
    refine v_get (am_Dk d_MR_look (k := 5) rfl) f_MR_89 hr rfl ?_
    refine v_iload_n (am_Dk d_MR_look (k := 6) rfl) rfl ?_
    refine v_bald (am_Dk d_MR_look (k := 7) rfl) h2 rfl (vp_in4 (by omega)) ?_
    rw [nI_clamp (n := i) (by omega)]
    refine v_goto (tgt := 18) (am_Dk d_MR_look (k := 8) rfl) (by decide) ?_
    exact v_ireturn (am_Dk d_MR_look (k := 10) rfl) rfl rfl (by omega) (by omega) ⟨by rw [lk, if_pos (by omega)], rfl, rfl⟩
set_option maxRecDepth 20000 in
theorem t_MR_take (G : am_G) {d nx : Nat} (hd : 0 ≤ d) {M : am_M} {n : Nat} {at9 be tk op le tp pl vd kn rk : Int32} {nu : Int64} (hr : M 1225 = some (.inr (12, [.ref 1226, .ref 1227, .ref 1228, .ref 1213, .ref 1220, .ref 1212, .int (nI n), .int at9, .int be, .int tk, .int op, .long nu, .ref 1229, .int le, .ref 1230, .int tp, .int pl, .ref 1231, .int vd, .int kn, .int rk, .ref 1232]))) {a b : Int32} : am_Tr G m_MR_take d 0 0 [.ref 1225, .int a, .int b] M nx (fun r M1 nx1 => r = .inl none ∧ M1 = am_up M 1225 (.inr (12, [.ref 1226, .ref 1227, .ref 1228, .ref 1213, .ref 1220, .ref 1212, .int (nI n), .int at9, .int b, .int a, .int op, .long nu, .ref 1229, .int le, .ref 1230, .int tp, .int pl, .ref 1231, .int vd, .int kn, .int rk, .ref 1232])) ∧ nx1 = nx) := by
  refine am_TrOf (by decide) (Nat.le_of_ble_eq_true rfl) ?_
  show am_V G _ _ _ _ _ 0 [(0, .ref 1225), (1, .int a), (2, .int b)] [] M nx 0 0
  refine v_aload_n (am_Dk d_MR_take (k := 0) rfl) rfl ?_
  refine v_iload_n (am_Dk d_MR_take (k := 1) rfl) rfl ?_
  refine v_put (am_Dk d_MR_take (k := 2) rfl) f_MR_123 hr (Nat.le_of_ble_eq_true rfl) rfl rfl ?_
  refine v_aload_n (am_Dk d_MR_take (k := 3) rfl) rfl ?_
  refine v_iload_n (am_Dk d_MR_take (k := 4) rfl) rfl ?_
  have m1 : (am_up M 1225 (.inr (12, [.ref 1226, .ref 1227, .ref 1228, .ref 1213, .ref 1220, .ref 1212, .int (nI n), .int at9, .int be, .int a, .int op, .long nu, .ref 1229, .int le, .ref 1230, .int tp, .int pl, .ref 1231, .int vd, .int kn, .int rk, .ref 1232]))) 1225 = some (.inr (12, [.ref 1226, .ref 1227, .ref 1228, .ref 1213, .ref 1220, .ref 1212, .int (nI n), .int at9, .int be, .int a, .int op, .long nu, .ref 1229, .int le, .ref 1230, .int tp, .int pl, .ref 1231, .int vd, .int kn, .int rk, .ref 1232])) := am_up_eq _ _ _
  refine v_put (am_Dk d_MR_take (k := 5) rfl) f_MR_96 m1 (Nat.le_of_ble_eq_true rfl) rfl rfl ?_
  rw [am_uu0 (a := 1225)]
  exact v_return (am_Dk d_MR_take (k := 6) rfl) rfl (by omega) (by omega) ⟨rfl, rfl, rfl⟩
set_option maxRecDepth 20000 in
theorem t_MR_bad (G : am_G) {d nx : Nat} (hd : 0 ≤ d) {M : am_M} {n : Nat} {at9 be tk op le tp pl vd kn rk : Int32} {nu : Int64} (hr : M 1225 = some (.inr (12, [.ref 1226, .ref 1227, .ref 1228, .ref 1213, .ref 1220, .ref 1212, .int (nI n), .int at9, .int be, .int tk, .int op, .long nu, .ref 1229, .int le, .ref 1230, .int tp, .int pl, .ref 1231, .int vd, .int kn, .int rk, .ref 1232]))) {a : Int32} : am_Tr G m_MR_bad d 0 0 [.ref 1225, .int a] M nx (fun r M1 nx1 => r = .inl (some (.ref 1228)) ∧ M1 = am_up M 1225 (.inr (12, [.ref 1226, .ref 1227, .ref 1228, .ref 1213, .ref 1220, .ref 1212, .int (nI n), .int at9, .int be, .int tk, .int op, .long nu, .ref 1229, .int le, .ref 1230, .int tp, .int a, .ref 1231, .int vd, .int kn, .int rk, .ref 1232])) ∧ nx1 = nx) := by
  refine am_TrOf (by decide) (Nat.le_of_ble_eq_true rfl) ?_
  show am_V G _ _ _ _ _ 0 [(0, .ref 1225), (1, .int a)] [] M nx 0 0
  refine v_aload_n (am_Dk d_MR_bad (k := 0) rfl) rfl ?_
  refine v_iload_n (am_Dk d_MR_bad (k := 1) rfl) rfl ?_
  refine v_put (am_Dk d_MR_bad (k := 2) rfl) f_MR_105 hr (Nat.le_of_ble_eq_true rfl) rfl rfl ?_
  refine v_aload_n (am_Dk d_MR_bad (k := 3) rfl) rfl ?_
  have m1 : (am_up M 1225 (.inr (12, [.ref 1226, .ref 1227, .ref 1228, .ref 1213, .ref 1220, .ref 1212, .int (nI n), .int at9, .int be, .int tk, .int op, .long nu, .ref 1229, .int le, .ref 1230, .int tp, .int a, .ref 1231, .int vd, .int kn, .int rk, .ref 1232]))) 1225 = some (.inr (12, [.ref 1226, .ref 1227, .ref 1228, .ref 1213, .ref 1220, .ref 1212, .int (nI n), .int at9, .int be, .int tk, .int op, .long nu, .ref 1229, .int le, .ref 1230, .int tp, .int a, .ref 1231, .int vd, .int kn, .int rk, .ref 1232])) := am_up_eq _ _ _
  refine v_get (am_Dk d_MR_bad (k := 4) rfl) f_MR_64 m1 rfl ?_
  exact v_areturn (am_Dk d_MR_bad (k := 5) rfl) rfl (Or.inl ⟨_, rfl⟩) (by omega) (by omega) ⟨rfl, rfl, rfl⟩
set_option maxRecDepth 20000 in
theorem t_MR_letter (G : am_G) {d nx : Nat} (hd : 0 ≤ d) {M : am_M} {n : Nat} {at9 be tk op le tp pl vd kn rk : Int32} {nu : Int64} {l : Nat} (hr : M 1225 = some (.inr (12, [.ref 1226, .ref 1227, .ref 1228, .ref 1213, .ref 1220, .ref 1212, .int (nI n), .int at9, .int be, .int tk, .int op, .long nu, .ref 1229, .int (nI l), .ref 1230, .int tp, .int pl, .ref 1231, .int vd, .int kn, .int rk, .ref 1232]))) {g : Nat → Int32} (hw : M 1229 = some (.inl (0, 4096, .inl g))) (hl : l < 4096) {a : Int32} : am_Tr G m_MR_letter d 0 0 [.ref 1225, .int a] M nx (fun r M1 nx1 => r = .inl none ∧ M1 = am_up (am_up M 1229 (.inl (0, 4096, .inl (upd g l (vp_nar .byte (Int8.toInt32 (Int32.toInt8 a))))))) 1225 (.inr (12, [.ref 1226, .ref 1227, .ref 1228, .ref 1213, .ref 1220, .ref 1212, .int (nI n), .int at9, .int be, .int tk, .int op, .long nu, .ref 1229, .int (nI (l + 1)), .ref 1230, .int tp, .int pl, .ref 1231, .int vd, .int kn, .int rk, .ref 1232])) ∧ nx1 = nx) := by
  refine am_TrOf (by decide) (Nat.le_of_ble_eq_true rfl) ?_
  show am_V G _ _ _ _ _ 0 [(0, .ref 1225), (1, .int a)] [] M nx 0 0
  refine v_aload_n (am_Dk d_MR_letter (k := 0) rfl) rfl ?_
  refine v_get (am_Dk d_MR_letter (k := 1) rfl) f_MR_68 hr rfl ?_
  refine v_aload_n (am_Dk d_MR_letter (k := 2) rfl) rfl ?_
  refine v_get (am_Dk d_MR_letter (k := 3) rfl) f_MR_139 hr rfl ?_
  refine v_iload_n (am_Dk d_MR_letter (k := 4) rfl) rfl ?_
  refine v_i2b (am_Dk d_MR_letter (k := 5) rfl) rfl ?_
  refine v_bast (am_Dk d_MR_letter (k := 6) rfl) hw rfl (vp_in4 (by omega)) ?_
  rw [nI_clamp (n := l) (by omega)]
  refine v_aload_n (am_Dk d_MR_letter (k := 7) rfl) rfl ?_
  refine v_dup (am_Dk d_MR_letter (k := 8) rfl) rfl ?_
  have m1 : (am_up M 1229 (.inl (0, 4096, .inl (upd g (l) (vp_nar .byte (Int8.toInt32 (Int32.toInt8 a))))))) 1225 = some (.inr (12, [.ref 1226, .ref 1227, .ref 1228, .ref 1213, .ref 1220, .ref 1212, .int (nI n), .int at9, .int be, .int tk, .int op, .long nu, .ref 1229, .int (nI l), .ref 1230, .int tp, .int pl, .ref 1231, .int vd, .int kn, .int rk, .ref 1232])) := (am_up_ne (show 1225 ≠ 1229 from by decide)).trans (hr)
  refine v_get (am_Dk d_MR_letter (k := 9) rfl) f_MR_139 m1 rfl ?_
  refine v_iconst (v := 1) (am_Dk d_MR_letter (k := 10) rfl) (by decide) ?_
  refine v_iadd (am_Dk d_MR_letter (k := 11) rfl) ?_
  rw [nI_1]
  refine v_put (am_Dk d_MR_letter (k := 12) rfl) f_MR_139 m1 (Nat.le_of_ble_eq_true rfl) rfl rfl ?_
  exact v_return (am_Dk d_MR_letter (k := 13) rfl) rfl (by omega) (by omega) ⟨rfl, rfl, rfl⟩
