/-! NAMES AND VARIABLES ASKED FOR (mine; rows laid by the walker) -/
set_option maxRecDepth 20000 in
theorem t_MR_name (G : am_G) {d nx : Nat} (hd : 2 ≤ d) {M : am_M} {n : Nat} {at9 be tk op le tp pl vd kn rk : Int32} {nu : Int64} {l : Nat} (hr : M 1225 = some (.inr (12, [.ref 1226, .ref 1227, .ref 1228, .ref 1213, .ref 1220, .ref 1212, .int (nI n), .int at9, .int be, .int tk, .int op, .long nu, .ref 1229, .int (nI l), .ref 1230, .int tp, .int pl, .ref 1231, .int vd, .int kn, .int rk, .ref 1232]))) {g : Nat → Int32} (hw : M 1229 = some (.inl (0, 4096, .inl g))) (hg : tbB g) (hl : l ≤ 4096) {LU : Nat → (Nat → Int32) → Option Int64} {sz pt ns tx vb e1 e2 : Nat} {W : Gho} {On : Nat → Nat} {Vx : Nat → Option (Nat × (Nat → Int32))} {A : Arn} {T : Nat → Int32} {F : Nat → Nat} {Va : Nat → Int32} (hR : RSx LU M sz pt ns tx vb e1 e2 W On Vx A T F Va) (htx : tx + l ≤ 5000) (hns : ns < 9000) : am_Tr G m_MR_name d 0 0 [.ref 1225] M nx (fun r M1 nx1 => ∃ k ns' tx' On' T' F', r = .inl (some (.int (nI k))) ∧ nx1 = nx ∧ RSx LU M1 sz pt ns' tx' vb e1 e2 W On' Vx A T' F' Va ∧ k < ns' ∧ On' k = spg l g ∧ nmQ T' F' k l g ∧ (∀ j, j < ns → On' j = On j) ∧ (ns' = ns ∧ tx' = tx ∨ ns' = ns + 1 ∧ tx' = tx + l ∧ ∀ j, j < ns → ¬ nmQ T F j l g) ∧ (∀ i, i < 1220 ∨ 1224 < i → M1 i = M i)) := by
  refine am_TrOf (by decide) (Nat.le_of_ble_eq_true rfl) ?_
  show am_V G _ _ _ _ _ 0 [(0, .ref 1225)] [] M nx 0 0
  refine v_aload_n (am_Dk d_MR_name (k := 0) rfl) rfl ?_
  refine v_get (am_Dk d_MR_name (k := 1) rfl) f_MR_85 hr rfl ?_
  refine v_aload_n (am_Dk d_MR_name (k := 2) rfl) rfl ?_
  refine v_get (am_Dk d_MR_name (k := 3) rfl) f_MR_68 hr rfl ?_
  refine v_aload_n (am_Dk d_MR_name (k := 4) rfl) rfl ?_
  refine v_get (am_Dk d_MR_name (k := 5) rfl) f_MR_139 hr rfl ?_
  refine v_callV (rest := []) (As := [.ref 1229, .int (nI l)]) (mc' := 0) (ms' := 0) (am_Dk d_MR_name (k := 6) rfl) c_MR_219 (Or.inl ⟨_, _, _, _, _, hR.2.1.1, cq_ok11⟩) (t_MN_of G (d := 1) (by omega) hR.2.1 hw hg hl hns htx) (by omega) (by omega) (by omega) (by simp [Value.category]) rfl (fun v1 M2 n3 h4 => ?_) (fun _ _ _ h4 => ?_)
  rotate_left
  · rcases h4 with ⟨_, _, _, h9, _⟩ | ⟨_, h9, _⟩ <;> cases h9
  obtain ⟨k, hv, hn1, hp⟩ : ∃ k, v1 = some (.int (nI k)) ∧ n3 = nx ∧ ((k < ns ∧ nmQ T F k l g ∧ M2 = M) ∨ ((∀ j, j < ns → ¬ nmQ T F j l g) ∧ k = ns ∧ NMs M2 (ns + 1) (tx + l) (nmT T tx l g) (nmF F ns (tx + l)) ∧ ∀ i, i < 1220 ∨ 1224 < i → M2 i = M i)) := by
    rcases h4 with ⟨k, a1, a2, a3, a4, a5⟩ | ⟨a1, a2, a3, a4, a5⟩
    · exact ⟨k, Sum.inl.inj a3, a5, Or.inl ⟨a1, a2, a4⟩⟩
    · exact ⟨ns, Sum.inl.inj a2, a5, Or.inr ⟨a1, rfl, a3, a4⟩⟩
  have hfr : ∀ i, i < 1220 ∨ 1224 < i → M2 i = M i := by
    rcases hp with ⟨_, _, e⟩ | ⟨_, _, _, e⟩
    · rw [e]; exact fun _ _ => rfl
    · exact e
  obtain ⟨ns9, tx9, On9, T9, F9, q1, q2, q3, q4, q5, q6⟩ := RS_of hR hp
  subst hv
  replace hn1 := hn1.symm
  subst hn1
  show am_V G _ _ _ _ _ 15 [(0, .ref 1225)] [.int (nI k)] M2 nx 0 0
  exact v_ireturn (am_Dk d_MR_name (k := 7) rfl) rfl rfl (by omega) (by omega) ⟨k, ns9, tx9, On9, T9, F9, rfl, rfl, q1, q2, q3, q4, q5, q6, hfr⟩
set_option maxRecDepth 20000 in
theorem t_MR_one (G : am_G) {d nx : Nat} (hd : 3 ≤ d) {M : am_M} {n : Nat} {at9 be tk op le tp pl vd kn rk : Int32} {nu : Int64} (hr : M 1225 = some (.inr (12, [.ref 1226, .ref 1227, .ref 1228, .ref 1213, .ref 1220, .ref 1212, .int (nI n), .int at9, .int be, .int tk, .int op, .long nu, .ref 1229, .int le, .ref 1230, .int tp, .int pl, .ref 1231, .int vd, .int kn, .int rk, .ref 1232]))) {g : Nat → Int32} (hw : M 1229 = some (.inl (0, 4096, .inl g))) (hg : tbB g) {c : Int32} (hcb : -128 ≤ c.toInt ∧ c.toInt ≤ 127) {LU : Nat → (Nat → Int32) → Option Int64} {sz pt ns tx vb e1 e2 : Nat} {W : Gho} {On : Nat → Nat} {Vx : Nat → Option (Nat × (Nat → Int32))} {A : Arn} {T : Nat → Int32} {F : Nat → Nat} {Va : Nat → Int32} (hR : RSx LU M sz pt ns tx vb e1 e2 W On Vx A T F Va) (htx : tx + 1 ≤ 5000) (hns : ns < 9000) : am_Tr G m_MR_one d 0 0 [.ref 1225, .int c] M nx (fun r M1 nx1 => ∃ k ns' tx' On' T' F', r = .inl (some (.int (nI k))) ∧ nx1 = nx ∧ RSx LU M1 sz pt ns' tx' vb e1 e2 W On' Vx A T' F' Va ∧ k < ns' ∧ On' k = spg 1 (upd g 0 c) ∧ nmQ T' F' k 1 (upd g 0 c) ∧ (∀ j, j < ns → On' j = On j) ∧ (ns' = ns ∧ tx' = tx ∨ ns' = ns + 1 ∧ tx' = tx + 1 ∧ ∀ j, j < ns → ¬ nmQ T F j 1 (upd g 0 c)) ∧ (∀ i, i < 1220 ∨ 1224 < i → M1 i = (am_up (am_up M 1229 (.inl (0, 4096, .inl (upd g 0 c)))) 1225 (.inr (12, [.ref 1226, .ref 1227, .ref 1228, .ref 1213, .ref 1220, .ref 1212, .int (nI n), .int at9, .int be, .int tk, .int op, .long nu, .ref 1229, .int (nI 1), .ref 1230, .int tp, .int pl, .ref 1231, .int vd, .int kn, .int rk, .ref 1232]))) i)) := by
  refine am_TrOf (by decide) (Nat.le_of_ble_eq_true rfl) ?_
  show am_V G _ _ _ _ _ 0 [(0, .ref 1225), (1, .int c)] [] M nx 0 0
  refine v_aload_n (am_Dk d_MR_one (k := 0) rfl) rfl ?_
  refine v_iconst (v := 0) (am_Dk d_MR_one (k := 1) rfl) (by decide) ?_
  refine v_put (am_Dk d_MR_one (k := 2) rfl) f_MR_139 hr (Nat.le_of_ble_eq_true rfl) rfl rfl ?_
  refine v_aload_n (am_Dk d_MR_one (k := 3) rfl) rfl ?_
  refine v_iload_n (am_Dk d_MR_one (k := 4) rfl) rfl ?_
  have m1 : (am_up M 1225 (.inr (12, [.ref 1226, .ref 1227, .ref 1228, .ref 1213, .ref 1220, .ref 1212, .int (nI n), .int at9, .int be, .int tk, .int op, .long nu, .ref 1229, .int 0, .ref 1230, .int tp, .int pl, .ref 1231, .int vd, .int kn, .int rk, .ref 1232]))) 1225 = some (.inr (12, [.ref 1226, .ref 1227, .ref 1228, .ref 1213, .ref 1220, .ref 1212, .int (nI n), .int at9, .int be, .int tk, .int op, .long nu, .ref 1229, .int 0, .ref 1230, .int tp, .int pl, .ref 1231, .int vd, .int kn, .int rk, .ref 1232])) := am_up_eq _ _ _
  have m2 : (am_up M 1225 (.inr (12, [.ref 1226, .ref 1227, .ref 1228, .ref 1213, .ref 1220, .ref 1212, .int (nI n), .int at9, .int be, .int tk, .int op, .long nu, .ref 1229, .int 0, .ref 1230, .int tp, .int pl, .ref 1231, .int vd, .int kn, .int rk, .ref 1232]))) 1229 = some (.inl (0, 4096, .inl g)) := (am_up_ne (show 1229 ≠ 1225 from by decide)).trans (hw)
  refine v_callV (rest := []) (As := [.int c]) (mc' := 0) (ms' := 0) (am_Dk d_MR_one (k := 5) rfl) c_MR_154 (Or.inl ⟨_, _, _, _, _, m1, cq_ok12⟩) (t_MR_letter G (d := 0) (le := 0) (l := 0) (by omega) m1 m2 (by omega)) (by omega) (by omega) (by omega) (by simp [Value.category]) rfl (fun v3 M4 n5 h6 => ?_) (fun _ _ _ h6 => ?_)
  rotate_left
  · exact absurd h6.1 (by simp)
  obtain ⟨h6, e7, e8⟩ := h6
  replace e7 := e7.symm
  replace e8 := e8.symm
  subst e7
  subst e8
  cases h6
  rw [lt_nar (hcb)]
  rw [am_uu1 (a := 1225)]
  show am_V G _ _ _ _ _ 10 [(0, .ref 1225), (1, .int c)] [] (am_up (am_up M 1229 (.inl (0, 4096, .inl (upd g 0 c)))) 1225 (.inr (12, [.ref 1226, .ref 1227, .ref 1228, .ref 1213, .ref 1220, .ref 1212, .int (nI n), .int at9, .int be, .int tk, .int op, .long nu, .ref 1229, .int (nI (1)), .ref 1230, .int tp, .int pl, .ref 1231, .int vd, .int kn, .int rk, .ref 1232]))) nx 0 0
  refine v_aload_n (am_Dk d_MR_one (k := 6) rfl) rfl ?_
  have m9 : (am_up (am_up M 1229 (.inl (0, 4096, .inl (upd g 0 c)))) 1225 (.inr (12, [.ref 1226, .ref 1227, .ref 1228, .ref 1213, .ref 1220, .ref 1212, .int (nI n), .int at9, .int be, .int tk, .int op, .long nu, .ref 1229, .int (nI (1)), .ref 1230, .int tp, .int pl, .ref 1231, .int vd, .int kn, .int rk, .ref 1232]))) 1225 = some (.inr (12, [.ref 1226, .ref 1227, .ref 1228, .ref 1213, .ref 1220, .ref 1212, .int (nI n), .int at9, .int be, .int tk, .int op, .long nu, .ref 1229, .int (nI (1)), .ref 1230, .int tp, .int pl, .ref 1231, .int vd, .int kn, .int rk, .ref 1232])) := am_up_eq _ _ _
  have m10 : (am_up (am_up M 1229 (.inl (0, 4096, .inl (upd g 0 c)))) 1225 (.inr (12, [.ref 1226, .ref 1227, .ref 1228, .ref 1213, .ref 1220, .ref 1212, .int (nI n), .int at9, .int be, .int tk, .int op, .long nu, .ref 1229, .int (nI (1)), .ref 1230, .int tp, .int pl, .ref 1231, .int vd, .int kn, .int rk, .ref 1232]))) 1229 = some (.inl (0, 4096, .inl (upd g 0 c))) := (am_up_ne (show 1229 ≠ 1225 from by decide)).trans (am_up_eq _ _ _)
  refine v_callV (rest := []) (As := []) (mc' := 0) (ms' := 0) (am_Dk d_MR_one (k := 7) rfl) c_MR_212 (Or.inl ⟨_, _, _, _, _, m9, cq_ok12⟩) (t_MR_name G (d := 2) (le := 0) (l := 1) (by omega) m9 m10 (tbB_up hg hcb) (by omega) (RSx_fr hR (fun i hi => (am_up_ne (show i ≠ 1225 from by omega)).trans ((am_up_ne (show i ≠ 1229 from by omega)).trans (rfl)))) (by omega) (by omega)) (by omega) (by omega) (by omega) (by simp [Value.category]) rfl (fun v11 M12 n13 h14 => ?_) (fun _ _ _ h14 => ?_)
  rotate_left
  · obtain ⟨_, _, _, _, _, _, h9, _⟩ := h14; cases h9
  obtain ⟨k, ns9, tx9, On9, T9, F9, hv, hn1, q1, q2, q3, q4, q5, q6, hfr⟩ := h14
  cases hv
  replace hn1 := hn1.symm
  subst hn1
  show am_V G _ _ _ _ _ 14 [(0, .ref 1225), (1, .int c)] [.int (nI k)] M12 nx 0 0
  exact v_ireturn (am_Dk d_MR_one (k := 8) rfl) rfl rfl (by omega) (by omega) ⟨k, ns9, tx9, On9, T9, F9, rfl, rfl, q1, q2, q3, q4, q5, q6, hfr⟩
set_option maxRecDepth 20000 in
theorem t_MR_comma (G : am_G) {d nx : Nat} (hd : 4 ≤ d) {M : am_M} {n : Nat} {at9 be tk op le tp pl vd kn rk : Int32} {nu : Int64} (hr : M 1225 = some (.inr (12, [.ref 1226, .ref 1227, .ref 1228, .ref 1213, .ref 1220, .ref 1212, .int (nI n), .int at9, .int be, .int tk, .int op, .long nu, .ref 1229, .int le, .ref 1230, .int tp, .int pl, .ref 1231, .int vd, .int kn, .int rk, .ref 1232]))) {g : Nat → Int32} (hw : M 1229 = some (.inl (0, 4096, .inl g))) (hg : tbB g) {LU : Nat → (Nat → Int32) → Option Int64} {sz pt ns tx vb e1 e2 : Nat} {W : Gho} {On : Nat → Nat} {Vx : Nat → Option (Nat × (Nat → Int32))} {A : Arn} {T : Nat → Int32} {F : Nat → Nat} {Va : Nat → Int32} (hR : RSx LU M sz pt ns tx vb e1 e2 W On Vx A T F Va) (htx : tx + 1 ≤ 5000) (hns : ns < 9000) : am_Tr G m_MR_comma d 0 0 [.ref 1225] M nx (fun r M1 nx1 => ∃ k ns' tx' On' T' F', r = .inl (some (.int (nI k))) ∧ nx1 = nx ∧ RSx LU M1 sz pt ns' tx' vb e1 e2 W On' Vx A T' F' Va ∧ k < ns' ∧ On' k = spg 1 (upd g 0 44) ∧ nmQ T' F' k 1 (upd g 0 44) ∧ (∀ j, j < ns → On' j = On j) ∧ (ns' = ns ∧ tx' = tx ∨ ns' = ns + 1 ∧ tx' = tx + 1 ∧ ∀ j, j < ns → ¬ nmQ T F j 1 (upd g 0 44)) ∧ (∀ i, i < 1220 ∨ 1224 < i → M1 i = (am_up (am_up M 1229 (.inl (0, 4096, .inl (upd g 0 44)))) 1225 (.inr (12, [.ref 1226, .ref 1227, .ref 1228, .ref 1213, .ref 1220, .ref 1212, .int (nI n), .int at9, .int be, .int tk, .int op, .long nu, .ref 1229, .int (nI 1), .ref 1230, .int tp, .int pl, .ref 1231, .int vd, .int kn, .int rk, .ref 1232]))) i)) := by
  refine am_TrOf (by decide) (Nat.le_of_ble_eq_true rfl) ?_
  show am_V G _ _ _ _ _ 0 [(0, .ref 1225)] [] M nx 0 0
  refine v_aload_n (am_Dk d_MR_comma (k := 0) rfl) rfl ?_
  refine v_bipush (v := 44) (am_Dk d_MR_comma (k := 1) rfl) (by decide) ?_
  refine v_callV (rest := []) (As := [.int 44]) (mc' := 0) (ms' := 0) (am_Dk d_MR_comma (k := 2) rfl) c_MR_225 (Or.inl ⟨_, _, _, _, _, hr, cq_ok12⟩) (t_MR_one G (d := 3) (by omega) hr hw hg ⟨by decide, by decide⟩ hR htx hns) (by omega) (by omega) (by omega) (by simp [Value.category]) rfl (fun v1 M2 n3 h4 => ?_) (fun _ _ _ h4 => ?_)
  rotate_left
  · obtain ⟨_, _, _, _, _, _, h9, _⟩ := h4; cases h9
  obtain ⟨k, ns9, tx9, On9, T9, F9, hv, hn1, q1, q2, q3, q4, q5, q6, hfr⟩ := h4
  cases hv
  replace hn1 := hn1.symm
  subst hn1
  show am_V G _ _ _ _ _ 6 [(0, .ref 1225)] [.int (nI k)] M2 nx 0 0
  exact v_ireturn (am_Dk d_MR_comma (k := 3) rfl) rfl rfl (by omega) (by omega) ⟨k, ns9, tx9, On9, T9, F9, rfl, rfl, q1, q2, q3, q4, q5, q6, hfr⟩
set_option maxRecDepth 20000 in
theorem t_MR_variable (G : am_G) {d nx : Nat} (hd : 3 ≤ d) {M : am_M} {n : Nat} {at9 be tk op le tp pl vd kn rk : Int32} {nu : Int64} {l : Nat} {LU : Nat → (Nat → Int32) → Option Int64} {sz pt ns tx vb e1 e2 : Nat} {W : Gho} {On : Nat → Nat} {Vx : Nat → Option (Nat × (Nat → Int32))} {A : Arn} {T : Nat → Int32} {F : Nat → Nat} {Va : Nat → Int32} (hR : RSx LU M sz pt ns tx vb e1 e2 W On Vx A T F Va) (hr : M 1225 = some (.inr (12, [.ref 1226, .ref 1227, .ref 1228, .ref 1213, .ref 1220, .ref 1212, .int (nI n), .int at9, .int be, .int tk, .int op, .long nu, .ref 1229, .int (nI l), .ref 1230, .int tp, .int pl, .ref 1231, .int (nI vb), .int kn, .int rk, .ref 1232]))) {g : Nat → Int32} (hw : M 1229 = some (.inl (0, 4096, .inl g))) (hg : tbB g) (hl : l ≤ 4096) (hl0 : 0 < l) (htx : tx + l ≤ 5000) (hns : ns < 9000) (hvb : vb < 4200) : am_Tr G m_MR_variable d 0 0 [.ref 1225] M nx (fun r M1 nx1 => ∃ v vb' ns' tx' On' Vx' T' F' Va', r = .inl (some (.int (nI v))) ∧ nx1 = nx ∧ RSx LU M1 sz pt ns' tx' vb' e1 e2 W On' Vx' A T' F' Va' ∧ v < vb' ∧ vb ≤ vb' ∧ vb' ≤ vb + 1 ∧ (∀ j, j < ns → On' j = On j) ∧ ns ≤ ns' ∧ ns' ≤ ns + 1 ∧ tx' ≤ tx + l ∧ (if l = 1 ∧ g 0 = 95 then Vx' v = none else ∃ g1, Vx' v = some (l, g1) ∧ ∀ i, i < l → g1 i = g i) ∧ M1 1225 = some (.inr (12, [.ref 1226, .ref 1227, .ref 1228, .ref 1213, .ref 1220, .ref 1212, .int (nI n), .int at9, .int be, .int tk, .int op, .long nu, .ref 1229, .int (nI l), .ref 1230, .int tp, .int pl, .ref 1231, .int (nI vb'), .int kn, .int rk, .ref 1232])) ∧ (∀ i, ¬ (1220 ≤ i ∧ i ≤ 1225) → ¬ i = 1231 → M1 i = M i)) := by
  refine am_TrOf (by decide) (Nat.le_of_ble_eq_true rfl) ?_
  show am_V G _ _ _ _ _ 0 [(0, .ref 1225)] [] M nx 0 0
  have h64 : ∀ (M2 : am_M) (ns2 tx2 : Nat) (On2 : Nat → Nat) (T2 : Nat → Int32) (F2 : Nat → Nat) (x : Int32) (q : Option (Nat × (Nat → Int32))), RSx LU M2 sz pt ns2 tx2 vb e1 e2 W On2 Vx A T2 F2 Va → M2 1225 = some (.inr (12, [.ref 1226, .ref 1227, .ref 1228, .ref 1213, .ref 1220, .ref 1212, .int (nI n), .int at9, .int be, .int tk, .int op, .long nu, .ref 1229, .int (nI l), .ref 1230, .int tp, .int pl, .ref 1231, .int (nI vb), .int kn, .int rk, .ref 1232])) → (∀ j, j < ns → On2 j = On j) → ns ≤ ns2 → ns2 ≤ ns + 1 → tx2 ≤ tx + l → (∀ i, i < 1220 ∨ 1224 < i → M2 i = M i) → (x = -1 ∧ q = none ∧ l = 1 ∧ g 0 = 95 ∨ (∃ k, x = nI k ∧ k < ns2 ∧ nmQ T2 F2 k l g ∧ q = some (l, g)) ∧ ¬ (l = 1 ∧ g 0 = 95)) → am_V G m_MR_variable d 0 0 (fun r M1 nx1 => ∃ v vb' ns' tx' On' Vx' T' F' Va', r = .inl (some (.int (nI v))) ∧ nx1 = nx ∧ RSx LU M1 sz pt ns' tx' vb' e1 e2 W On' Vx' A T' F' Va' ∧ v < vb' ∧ vb ≤ vb' ∧ vb' ≤ vb + 1 ∧ (∀ j, j < ns → On' j = On j) ∧ ns ≤ ns' ∧ ns' ≤ ns + 1 ∧ tx' ≤ tx + l ∧ (if l = 1 ∧ g 0 = 95 then Vx' v = none else ∃ g1, Vx' v = some (l, g1) ∧ ∀ i, i < l → g1 i = g i) ∧ M1 1225 = some (.inr (12, [.ref 1226, .ref 1227, .ref 1228, .ref 1213, .ref 1220, .ref 1212, .int (nI n), .int at9, .int be, .int tk, .int op, .long nu, .ref 1229, .int (nI l), .ref 1230, .int tp, .int pl, .ref 1231, .int (nI vb'), .int kn, .int rk, .ref 1232])) ∧ (∀ i, ¬ (1220 ≤ i ∧ i ≤ 1225) → ¬ i = 1231 → M1 i = M i)) 56 [(1, .int x), (0, .ref 1225)] [] M2 nx 0 0 := by
    intro M2 ns2 tx2 On2 T2 F2 x q hR2 hr2 ho2 hn1 hn2 ht2 hf2 hx
    refine v_aload_n (am_Dk d_MR_variable (k := 33) rfl) rfl ?_
    refine v_get (am_Dk d_MR_variable (k := 34) rfl) f_MR_75 hr2 rfl ?_
    refine v_aload_n (am_Dk d_MR_variable (k := 35) rfl) rfl ?_
    refine v_get (am_Dk d_MR_variable (k := 36) rfl) f_MR_243 hr2 rfl ?_
    refine v_iload_n (am_Dk d_MR_variable (k := 37) rfl) rfl ?_
    refine v_iast (am_Dk d_MR_variable (k := 38) rfl) hR2.2.2.1 rfl (vp_in_nI (by omega) (by omega)) ?_
    rw [nI_clamp (n := vb) (by omega)]
    refine v_aload_n (am_Dk d_MR_variable (k := 39) rfl) rfl ?_
    refine v_dup (am_Dk d_MR_variable (k := 40) rfl) rfl ?_
    have m1 : (am_up M2 1231 (.inl (1, 4200, .inl (upd Va (vb) x)))) 1225 = some (.inr (12, [.ref 1226, .ref 1227, .ref 1228, .ref 1213, .ref 1220, .ref 1212, .int (nI n), .int at9, .int be, .int tk, .int op, .long nu, .ref 1229, .int (nI l), .ref 1230, .int tp, .int pl, .ref 1231, .int (nI vb), .int kn, .int rk, .ref 1232])) := (am_up_ne (show 1225 ≠ 1231 from by decide)).trans (hr2)
    refine v_get (am_Dk d_MR_variable (k := 41) rfl) f_MR_243 m1 rfl ?_
    refine v_iconst (v := 1) (am_Dk d_MR_variable (k := 42) rfl) (by decide) ?_
    refine v_iadd (am_Dk d_MR_variable (k := 43) rfl) ?_
    rw [nI_1]
    refine v_put (am_Dk d_MR_variable (k := 44) rfl) f_MR_243 m1 (Nat.le_of_ble_eq_true rfl) rfl rfl ?_
    refine v_aload_n (am_Dk d_MR_variable (k := 45) rfl) rfl ?_
    have m2 : (am_up (am_up M2 1231 (.inl (1, 4200, .inl (upd Va (vb) x)))) 1225 (.inr (12, [.ref 1226, .ref 1227, .ref 1228, .ref 1213, .ref 1220, .ref 1212, .int (nI n), .int at9, .int be, .int tk, .int op, .long nu, .ref 1229, .int (nI l), .ref 1230, .int tp, .int pl, .ref 1231, .int (nI (vb + 1)), .int kn, .int rk, .ref 1232]))) 1225 = some (.inr (12, [.ref 1226, .ref 1227, .ref 1228, .ref 1213, .ref 1220, .ref 1212, .int (nI n), .int at9, .int be, .int tk, .int op, .long nu, .ref 1229, .int (nI l), .ref 1230, .int tp, .int pl, .ref 1231, .int (nI (vb + 1)), .int kn, .int rk, .ref 1232])) := am_up_eq _ _ _
    refine v_get (am_Dk d_MR_variable (k := 46) rfl) f_MR_243 m2 rfl ?_
    refine v_iconst (v := 1) (am_Dk d_MR_variable (k := 47) rfl) (by decide) ?_
    refine v_isub (am_Dk d_MR_variable (k := 48) rfl) ?_
    rw [nI_pred]
    refine v_ireturn (am_Dk d_MR_variable (k := 49) rfl) rfl rfl (by omega) (by omega) ⟨vb, vb + 1, ns2, tx2, On2, (fun j => if j = vb then q else Vx j), T2, F2, upd Va vb x, rfl, rfl, ?_, by omega, by omega, by omega, ho2, hn1, hn2, ht2, ?_, am_up_eq _ _ _, fun i h1 h2 => ?_⟩
    · obtain ⟨c1, c2, c3, c4, c5, c6, c7, c8⟩ := hR2
      refine ⟨ARs_fr c1 (fun i z1 z2 => (am_up_ne (show i ≠ 1225 from by omega)).trans ((am_up_ne (show i ≠ 1231 from by omega)).trans (rfl))), NMs_fr c2 (fun i z1 z2 => (am_up_ne (show i ≠ 1225 from by omega)).trans ((am_up_ne (show i ≠ 1231 from by omega)).trans (rfl))), (am_up_ne (show 1231 ≠ 1225 from by decide)).trans (am_up_eq _ _ _), fun y hy => ?_, c5, fun v hv => ?_, c7, c8⟩
      · exact ar_ext hy c2.2.2.2.1 (nm_refl _ _ _ _) (Nat.le_refl _) (fun v hv => upd_ne _ _ (by omega)) (Nat.le_succ _) (ar_refl _ _ _) (Nat.le_refl _) (gh_refl _ _) (c4 y hy)
      · by_cases hvv : v = vb
        · rw [hvv]
          rcases hx with ⟨x1, x2, _⟩ | ⟨⟨k, x1, x2, x3, x4⟩, _⟩
          · exact Or.inl ⟨(upd_at _ _ _).trans x1, by show (if vb = vb then q else Vx vb) = none; rw [if_pos rfl, x2]⟩
          · exact Or.inr ⟨k, l, g, x2, (upd_at _ _ _).trans x1, x3, by show (if vb = vb then q else Vx vb) = _; rw [if_pos rfl, x4]⟩
        · rcases c6 v (by omega) with ⟨y1, y2⟩ | ⟨k, l1, g1, y1, y2, y3, y4⟩
          · exact Or.inl ⟨(upd_ne _ _ hvv).trans y1, by show (if v = vb then q else Vx v) = none; rw [if_neg hvv, y2]⟩
          · exact Or.inr ⟨k, l1, g1, y1, (upd_ne _ _ hvv).trans y2, y3, by show (if v = vb then q else Vx v) = _; rw [if_neg hvv, y4]⟩
    · show (if l = 1 ∧ g 0 = 95 then (if vb = vb then q else Vx vb) = none else ∃ g1, (if vb = vb then q else Vx vb) = some (l, g1) ∧ ∀ i, i < l → g1 i = g i)
      rcases hx with ⟨x1, x2, x3, x4⟩ | ⟨⟨k, x1, x2, x3, x4⟩, x5⟩
      · rw [if_pos ⟨x3, x4⟩, if_pos rfl, x2]
      · rw [if_neg x5, if_pos rfl, x4]
        exact ⟨g, rfl, fun _ _ => rfl⟩
    · exact (am_up_ne (show i ≠ 1225 from by omega)).trans ((am_up_ne (show i ≠ 1231 from by omega)).trans (hf2 i (by omega)))
  have h28 : ∀ (M2 : am_M) (k ns2 tx2 : Nat) (On2 : Nat → Nat) (T2 : Nat → Int32) (F2 : Nat → Nat), RSx LU M2 sz pt ns2 tx2 vb e1 e2 W On2 Vx A T2 F2 Va → M2 1225 = some (.inr (12, [.ref 1226, .ref 1227, .ref 1228, .ref 1213, .ref 1220, .ref 1212, .int (nI n), .int at9, .int be, .int tk, .int op, .long nu, .ref 1229, .int (nI l), .ref 1230, .int tp, .int pl, .ref 1231, .int (nI vb), .int kn, .int rk, .ref 1232])) → (∀ j, j < ns → On2 j = On j) → ns ≤ ns2 → ns2 ≤ ns + 1 → tx2 ≤ tx + l → (∀ i, i < 1220 ∨ 1224 < i → M2 i = M i) → k < ns2 → nmQ T2 F2 k l g → ¬ (l = 1 ∧ g 0 = 95) → ∀ m i, i + m = vb → am_V G m_MR_variable d 0 0 (fun r M1 nx1 => ∃ v vb' ns' tx' On' Vx' T' F' Va', r = .inl (some (.int (nI v))) ∧ nx1 = nx ∧ RSx LU M1 sz pt ns' tx' vb' e1 e2 W On' Vx' A T' F' Va' ∧ v < vb' ∧ vb ≤ vb' ∧ vb' ≤ vb + 1 ∧ (∀ j, j < ns → On' j = On j) ∧ ns ≤ ns' ∧ ns' ≤ ns + 1 ∧ tx' ≤ tx + l ∧ (if l = 1 ∧ g 0 = 95 then Vx' v = none else ∃ g1, Vx' v = some (l, g1) ∧ ∀ i, i < l → g1 i = g i) ∧ M1 1225 = some (.inr (12, [.ref 1226, .ref 1227, .ref 1228, .ref 1213, .ref 1220, .ref 1212, .int (nI n), .int at9, .int be, .int tk, .int op, .long nu, .ref 1229, .int (nI l), .ref 1230, .int tp, .int pl, .ref 1231, .int (nI vb'), .int kn, .int rk, .ref 1232])) ∧ (∀ i, ¬ (1220 ≤ i ∧ i ≤ 1225) → ¬ i = 1231 → M1 i = M i)) 28 [(3, .int (nI i)), (2, .int (nI k)), (1, .int (-1)), (0, .ref 1225)] [] M2 nx 0 0 := by
    intro M2 k ns2 tx2 On2 T2 F2 hR2 hr2 ho2 hn1 hn2 ht2 hf2 hk2 hq2 hne m
    induction m with
    | zero =>
      intro i him
      refine v_iload_n (am_Dk d_MR_variable (k := 17) rfl) rfl ?_
      refine v_aload_n (am_Dk d_MR_variable (k := 18) rfl) rfl ?_
      refine v_get (am_Dk d_MR_variable (k := 19) rfl) f_MR_243 hr2 rfl ?_
      refine v_icmp_ge (tgt := 54) (am_Dk d_MR_variable (k := 20) rfl) (by decide) (fun c1 => ?_) (fun c1 => ?_)
      · have Nc1 := (nI_leI (a := vb) (b := i) (by omega) (by omega)).mp c1
        refine v_iload_n (am_Dk d_MR_variable (k := 31) rfl) rfl ?_
        refine v_istore_n (L1 := [(1, .int (nI k)), (3, .int (nI i)), (2, .int (nI k)), (0, .ref 1225)]) (am_Dk d_MR_variable (k := 32) rfl) (by decide) rfl ?_
        exact v_drop (h64 M2 ns2 tx2 On2 T2 F2 (nI k) (some (l, g)) hR2 hr2 ho2 hn1 hn2 ht2 hf2 (Or.inr ⟨⟨k, rfl, hk2, hq2, rfl⟩, hne⟩)) (by simp)
      · have Nc1 : ¬ vb ≤ i := fun z => c1 ((nI_leI (a := vb) (b := i) (by omega) (by omega)).mpr z)
        exfalso
        omega
    | succ m ih =>
      intro i him
      refine v_iload_n (am_Dk d_MR_variable (k := 17) rfl) rfl ?_
      refine v_aload_n (am_Dk d_MR_variable (k := 18) rfl) rfl ?_
      refine v_get (am_Dk d_MR_variable (k := 19) rfl) f_MR_243 hr2 rfl ?_
      refine v_icmp_ge (tgt := 54) (am_Dk d_MR_variable (k := 20) rfl) (by decide) (fun c1 => ?_) (fun c1 => ?_)
      · have Nc1 := (nI_leI (a := vb) (b := i) (by omega) (by omega)).mp c1
        exfalso
        omega
      · have Nc1 : ¬ vb ≤ i := fun z => c1 ((nI_leI (a := vb) (b := i) (by omega) (by omega)).mpr z)
        refine v_aload_n (am_Dk d_MR_variable (k := 21) rfl) rfl ?_
        refine v_get (am_Dk d_MR_variable (k := 22) rfl) f_MR_75 hr2 rfl ?_
        refine v_iload_n (am_Dk d_MR_variable (k := 23) rfl) rfl ?_
        refine v_iald (am_Dk d_MR_variable (k := 24) rfl) hR2.2.2.1 rfl (vp_in_nI (by omega) (by omega)) ?_
        rw [nI_clamp (n := i) (by omega)]
        refine v_iload_n (am_Dk d_MR_variable (k := 25) rfl) rfl ?_
        refine v_icmp_ne (tgt := 48) (am_Dk d_MR_variable (k := 26) rfl) (by decide) (fun c2 => ?_) (fun c2 => ?_)
        · refine v_iinc (v := nI (i + 1)) (L1 := [(3, .int (nI (i + 1))), (2, .int (nI k)), (1, .int (-1)), (0, .ref 1225)]) (am_Dk d_MR_variable (k := 29) rfl) rfl (nI_1 _) (by decide) rfl ?_
          refine v_goto (tgt := 28) (am_Dk d_MR_variable (k := 30) rfl) (by decide) ?_
          exact ih (i + 1) (by omega)
        · have hE9 := c2
          refine v_iload_n (am_Dk d_MR_variable (k := 27) rfl) rfl ?_
          refine v_ireturn (am_Dk d_MR_variable (k := 28) rfl) rfl rfl (by omega) (by omega) ⟨i, vb, ns2, tx2, On2, Vx, T2, F2, Va, rfl, rfl, hR2, by omega, Nat.le_refl _, by omega, ho2, hn1, hn2, ht2, ?_, hr2, fun j h1 h2 => hf2 j (by omega)⟩
          rw [if_neg hne]
          rcases hR2.2.2.2.2.2.1 i (by omega) with ⟨y1, y2⟩ | ⟨k1, l1, g1, y1, y2, y3, y4⟩
          · exact absurd (hE9.symm.trans y1) (nI_nm1 (by omega))
          · have e : k1 = k := (nI_eq (by omega) (by omega)).mp (y2.symm.trans hE9)
            rw [e] at y3
            have el : l1 = l := y3.1.symm.trans hq2.1
            rw [el] at y3 y4
            exact ⟨g1, y4, fun j hj => (y3.2 j hj).symm.trans (hq2.2 j hj)⟩
  refine v_iconst (v := (-1)) (am_Dk d_MR_variable (k := 0) rfl) (by decide) ?_
  refine v_istore_n (L1 := [(1, .int (-1)), (0, .ref 1225)]) (am_Dk d_MR_variable (k := 1) rfl) (by decide) rfl ?_
  refine v_aload_n (am_Dk d_MR_variable (k := 2) rfl) rfl ?_
  refine v_get (am_Dk d_MR_variable (k := 3) rfl) f_MR_139 hr rfl ?_
  refine v_iconst (v := 1) (am_Dk d_MR_variable (k := 4) rfl) (by decide) ?_
  refine v_icmp_gt (tgt := 21) (am_Dk d_MR_variable (k := 5) rfl) (by decide) (fun c1 => ?_) (fun c1 => ?_)
  · have Nc1 := (nI_ltI (a := 1) (b := l) (by omega) (by omega)).mp c1
    have hne : ¬ (l = 1 ∧ g 0 = 95) := fun z => by omega
    refine v_aload_n (am_Dk d_MR_variable (k := 12) rfl) rfl ?_
    refine v_callV (rest := []) (As := []) (mc' := 0) (ms' := 0) (am_Dk d_MR_variable (k := 13) rfl) c_MR_212 (Or.inl ⟨_, _, _, _, _, hr, cq_ok12⟩) (t_MR_name G (d := 2) (le := 0) (by omega) hr hw hg hl hR htx hns) (by omega) (by omega) (by omega) (by simp [Value.category]) rfl (fun v2 M3 n4 h5 => ?_) (fun _ _ _ h5 => ?_)
    rotate_left
    · obtain ⟨_, _, _, _, _, _, h9, _⟩ := h5; cases h9
    obtain ⟨k, ns9, tx9, On9, T9, F9, hv, hn1, q1, q2, q3, q4, q5, q6, hfr⟩ := h5
    cases hv
    replace hn1 := hn1.symm
    subst hn1
    show am_V G _ _ _ _ _ 25 [(1, .int (-1)), (0, .ref 1225)] [.int (nI k)] M3 nx 0 0
    refine v_istore_n (L1 := [(2, .int (nI k)), (1, .int (-1)), (0, .ref 1225)]) (am_Dk d_MR_variable (k := 14) rfl) (by decide) rfl ?_
    refine v_iconst (v := 0) (am_Dk d_MR_variable (k := 15) rfl) (by decide) ?_
    refine v_istore_n (L1 := [(3, .int 0), (2, .int (nI k)), (1, .int (-1)), (0, .ref 1225)]) (am_Dk d_MR_variable (k := 16) rfl) (by decide) rfl ?_
    exact v_drop (h28 _ k ns9 tx9 On9 T9 F9 q1 ((hfr 1225 (by omega)).trans hr) q5 (by omega) (by omega) (by omega) hfr q2 q4 hne vb 0 (by omega)) (by simp [nI_0])
  · have Nc1 : ¬ 1 < l := fun z => c1 ((nI_ltI (a := 1) (b := l) (by omega) (by omega)).mpr z)
    have hl1 : l = 1 := by omega
    refine v_aload_n (am_Dk d_MR_variable (k := 6) rfl) rfl ?_
    refine v_get (am_Dk d_MR_variable (k := 7) rfl) f_MR_68 hr rfl ?_
    refine v_iconst (v := 0) (am_Dk d_MR_variable (k := 8) rfl) (by decide) ?_
    refine v_bald (am_Dk d_MR_variable (k := 9) rfl) hw rfl (vp_in_nI (n := 0) (by omega) (by omega)) ?_
    rw [show Int32.toNatClampNeg 0 = 0 from by decide]
    refine v_bipush (v := 95) (am_Dk d_MR_variable (k := 10) rfl) (by decide) ?_
    refine v_icmp_eq (tgt := 56) (am_Dk d_MR_variable (k := 11) rfl) (by decide) (fun c6 => ?_) (fun c6 => ?_)
    · have h95 : g 0 = 95 := c6
      exact v_drop (h64 M ns tx On T F (-1) none hR hr (fun _ _ => rfl) (Nat.le_refl _) (by omega) (by omega) (fun _ _ => rfl) (Or.inl ⟨rfl, rfl, hl1, h95⟩)) (by simp)
    · have hne : ¬ (l = 1 ∧ g 0 = 95) := fun z => c6 z.2
      refine v_aload_n (am_Dk d_MR_variable (k := 12) rfl) rfl ?_
      refine v_callV (rest := []) (As := []) (mc' := 0) (ms' := 0) (am_Dk d_MR_variable (k := 13) rfl) c_MR_212 (Or.inl ⟨_, _, _, _, _, hr, cq_ok12⟩) (t_MR_name G (d := 2) (le := 0) (by omega) hr hw hg hl hR htx hns) (by omega) (by omega) (by omega) (by simp [Value.category]) rfl (fun v7 M8 n9 h10 => ?_) (fun _ _ _ h10 => ?_)
      rotate_left
      · obtain ⟨_, _, _, _, _, _, h9, _⟩ := h10; cases h9
      obtain ⟨k, ns9, tx9, On9, T9, F9, hv, hn1, q1, q2, q3, q4, q5, q6, hfr⟩ := h10
      cases hv
      replace hn1 := hn1.symm
      subst hn1
      show am_V G _ _ _ _ _ 25 [(1, .int (-1)), (0, .ref 1225)] [.int (nI k)] M8 nx 0 0
      refine v_istore_n (L1 := [(2, .int (nI k)), (1, .int (-1)), (0, .ref 1225)]) (am_Dk d_MR_variable (k := 14) rfl) (by decide) rfl ?_
      refine v_iconst (v := 0) (am_Dk d_MR_variable (k := 15) rfl) (by decide) ?_
      refine v_istore_n (L1 := [(3, .int 0), (2, .int (nI k)), (1, .int (-1)), (0, .ref 1225)]) (am_Dk d_MR_variable (k := 16) rfl) (by decide) rfl ?_
      exact v_drop (h28 _ k ns9 tx9 On9 T9 F9 q1 ((hfr 1225 (by omega)).trans hr) q5 (by omega) (by omega) (by omega) hfr q2 q4 hne vb 0 (by omega)) (by simp [nI_0])
