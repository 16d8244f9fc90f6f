/-! THE CLASS'S VARIABLES, WRITTEN (mine; rows laid by the walker) -/
theorem jmaxI_n {a b : Nat} (ha : a < 2 ^ 31) (hb : b < 2 ^ 31) : jmaxI (nI a) (nI b) = nI (max a b) := by
  rw [jmaxI]
  by_cases h : b ≤ a
  · rw [if_pos ((nI_leI hb ha).mpr h), show max a b = a from by omega]
  · rw [if_neg (fun z => h ((nI_leI hb ha).mp z)), show max a b = b from by omega]
theorem jminI_n {a b : Nat} (ha : a < 2 ^ 31) (hb : b < 2 ^ 31) : jminI (nI a) (nI b) = nI (min a b) := by
  rw [jminI]
  by_cases h : a ≤ b
  · rw [if_pos ((nI_leI ha hb).mpr h), show min a b = a from by omega]
  · rw [if_neg (fun z => h ((nI_leI ha hb).mp z)), show min a b = b from by omega]
def vw (M : am_M) (c : Nat) (Vi Vb : Nat → Nat) (ed cap : Nat) (R : Nat → Option Nat) (nx : Nat) : Prop := ((ed = 54 ∧ c = 0) ∨ (1240 ≤ ed ∧ ed < nx ∧ M ed = some (.inl (3, cap, .inr (.inr (.inr (.inr R))))) ∧ 0 < cap ∧ cap ≤ 75)) ∧ (∀ i, i < c → Vi i < nx ∧ Vb i < nx) ∧ ∀ i j, i < c → j < c → Vi i = Vi j → i = j
set_option maxRecDepth 20000 in
theorem t_jU_newLength (G : am_G) {d nx : Nat} (hd : 1 ≤ d) {M : am_M} {a g p : Nat} (ha : a < 100000) (hg : 0 < g) (hg2 : g < 100000) (hp : p < 100000) : am_Tr G m_jU_newLength d 0 0 [.int (nI a), .int (nI g), .int (nI p)] M nx (fun r M1 nx1 => r = .inl (some (.int (nI (a + max g p)))) ∧ M1 = M ∧ nx1 = nx) := by
  refine am_TrOf (by decide) (Nat.le_of_ble_eq_true rfl) ?_
  show am_V G _ _ _ _ _ 0 [(0, .int (nI a)), (1, .int (nI g)), (2, .int (nI p))] [] M nx 0 0
  refine v_iload_n (am_Dk d_jU_newLength (k := 0) rfl) rfl ?_
  refine v_iload_n (am_Dk d_jU_newLength (k := 1) rfl) rfl ?_
  refine v_iload_n (am_Dk d_jU_newLength (k := 2) rfl) rfl ?_
  refine v_callS (rest := [.int (nI a)]) (As := [.int (nI g), .int (nI p)]) (mc' := 0) (ms' := 0) (am_Dk d_jU_newLength (k := 3) rfl) c_jU_194 (t_jM_max2 G (d := 0) (by omega)) (by omega) (by omega) (by omega) (by simp [Value.category]) rfl (fun v1 M2 n3 h4 => ?_) (fun _ _ _ h4 => ?_)
  rotate_left
  · exact absurd h4.1 (by simp)
  obtain ⟨h4, e5, e6⟩ := h4
  replace e5 := e5.symm
  replace e6 := e6.symm
  subst e5
  subst e6
  cases h4
  show am_V G _ _ _ _ _ 6 [(0, .int (nI a)), (1, .int (nI g)), (2, .int (nI p))] [.int (jmaxI (nI g) (nI p)), .int (nI a)] M nx 0 0
  rw [jmaxI_n (by omega) (by omega)]
  show am_V G _ _ _ _ _ 6 [(0, .int (nI a)), (1, .int (nI g)), (2, .int (nI p))] [.int (nI (max g p)), .int (nI a)] M nx 0 0
  refine v_iadd (am_Dk d_jU_newLength (k := 4) rfl) ?_
  rw [nI_add]
  refine v_istore_n (L1 := [(3, .int (nI (a + max g p))), (0, .int (nI a)), (1, .int (nI g)), (2, .int (nI p))]) (am_Dk d_jU_newLength (k := 5) rfl) (by decide) rfl ?_
  refine v_iconst (v := 0) (am_Dk d_jU_newLength (k := 6) rfl) (by decide) ?_
  refine v_iload_n (am_Dk d_jU_newLength (k := 7) rfl) rfl ?_
  refine v_icmp_ge (tgt := 21) (am_Dk d_jU_newLength (k := 8) rfl) (by decide) (fun c7 => ?_) (fun c7 => ?_)
  · have Nc7 := (nI_leI (a := a + max g p) (b := 0) (by omega) (by omega)).mp c7
    exfalso
    omega
  · have Nc7 : ¬ (a + max g p) ≤ 0 := fun z => c7 ((nI_leI (a := a + max g p) (b := 0) (by omega) (by omega)).mpr z)
    refine v_iload_n (am_Dk d_jU_newLength (k := 9) rfl) rfl ?_
    refine v_ldc (am_Dk d_jU_newLength (k := 10) rfl) k_jU_200 ?_
    refine v_icmp_gt (tgt := 21) (am_Dk d_jU_newLength (k := 11) rfl) (by decide) (fun c8 => ?_) (fun c8 => ?_)
    · have Nc8 := (nI_ltI (a := 2147483639) (b := a + max g p) (by omega) (by omega)).mp c8
      exfalso
      omega
    · have Nc8 : ¬ 2147483639 < (a + max g p) := fun z => c8 ((nI_ltI (a := 2147483639) (b := a + max g p) (by omega) (by omega)).mpr z)
      refine v_iload_n (am_Dk d_jU_newLength (k := 12) rfl) rfl ?_
      exact v_ireturn (am_Dk d_jU_newLength (k := 13) rfl) rfl rfl (by omega) (by omega) ⟨rfl, rfl, rfl⟩
set_option maxRecDepth 20000 in
theorem t_jR_copyOf2 (G : am_G) {d nx : Nat} (hd : 1 ≤ d) {M : am_M} {ed cap m : Nat} {R : Nat → Option Nat} (he : M ed = some (.inl (3, cap, .inr (.inr (.inr (.inr R)))))) (hed : ed < nx) (hE : ∀ i, i < cap → ∃ y fs, R i = some y ∧ y < nx ∧ M y = some (.inr (4, fs))) (hcm : cap ≤ m) (hm : m < 100000) : am_Tr G m_jR_copyOf2 d 1 m [.ref ed, .int (nI m), .ref 55] M nx (fun r M1 nx1 => r = .inl (some (.ref nx)) ∧ M1 = am_up M nx (.inl (3, m, .inr (.inr (.inr (.inr (va_cpy R (fun _ => none) 0 0 cap)))))) ∧ nx1 = nx + 1) := by
  refine am_TrOf (by decide) (Nat.le_of_ble_eq_true rfl) ?_
  show am_V G _ _ _ _ _ 0 [(0, .ref ed), (1, .int (nI m)), (2, .ref 55)] [] M nx 0 0
  refine v_aload_n (am_Dk d_jR_copyOf2 (k := 0) rfl) rfl ?_
  refine v_ldcM (am_Dk d_jR_copyOf2 (k := 1) rfl) n_jR_110 ?_
  refine v_acmp_ne (rx := (some 55)) (ry := (some 55)) (tgt := 13) (am_Dk d_jR_copyOf2 (k := 2) rfl) rfl rfl (by decide) (fun _ _ => rfl) (fun c1 => ?_) (fun c1 => ?_)
  · exact absurd rfl c1
  · refine v_iload_n (am_Dk d_jR_copyOf2 (k := 3) rfl) rfl ?_
    refine v_anew (t := 3) (N := m) (am_Dk d_jR_copyOf2 (k := 4) rfl) n_jR_2 (List.mem_append_right _ (List.mem_of_getElem? (i := 899) (by decide +kernel))) rfl (nI_pos (by omega)) (nI_clamp (by omega)) (by omega) (by omega) (by omega) ?_
    refine v_goto (tgt := 24) (am_Dk d_jR_copyOf2 (k := 5) rfl) (by decide) ?_
    refine v_astore_n (L1 := [(3, .ref nx), (0, .ref ed), (1, .int (nI m)), (2, .ref 55)]) (am_Dk d_jR_copyOf2 (k := 11) rfl) (by decide) rfl ?_
    refine v_aload_n (am_Dk d_jR_copyOf2 (k := 12) rfl) rfl ?_
    refine v_iconst (v := 0) (am_Dk d_jR_copyOf2 (k := 13) rfl) (by decide) ?_
    refine v_aload_n (am_Dk d_jR_copyOf2 (k := 14) rfl) rfl ?_
    refine v_iconst (v := 0) (am_Dk d_jR_copyOf2 (k := 15) rfl) (by decide) ?_
    refine v_aload_n (am_Dk d_jR_copyOf2 (k := 16) rfl) rfl ?_
    have m2 : (am_up M nx (.inl (3, m, .inr (.inr (.inr (.inr (fun _ => none))))))) ed = some (.inl (3, cap, .inr (.inr (.inr (.inr R))))) := (am_up_ne (show ed ≠ nx from by omega)).trans (he)
    refine v_alen (am_Dk d_jR_copyOf2 (k := 17) rfl) m2 rfl rfl ?_
    show am_V G _ _ _ _ _ 31 [(3, .ref nx), (0, .ref ed), (1, .int (nI m)), (2, .ref 55)] [.int (nI cap), .int 0, .ref nx, .int 0, .ref ed] (am_up M nx (.inl (3, m, .inr (.inr (.inr (.inr (fun _ => none))))))) (nx + 1) 1 (0 + m)
    refine v_iload_n (am_Dk d_jR_copyOf2 (k := 18) rfl) rfl ?_
    refine v_callS (rest := [.int 0, .ref nx, .int 0, .ref ed]) (As := [.int (nI cap), .int (nI m)]) (mc' := 0) (ms' := 0) (am_Dk d_jR_copyOf2 (k := 19) rfl) c_jR_304 (t_jM_min2 G (d := 0) (by omega)) (by omega) (by omega) (by omega) (by simp [Value.category]) rfl (fun v3 M4 n5 h6 => ?_) (fun _ _ _ h6 => ?_)
    rotate_left
    · exact absurd h6.1 (by simp)
    obtain ⟨h6, e7, e8⟩ := h6
    replace e7 := e7.symm
    replace e8 := e8.symm
    subst e7
    subst e8
    cases h6
    show am_V G _ _ _ _ _ 35 [(3, .ref nx), (0, .ref ed), (1, .int (nI m)), (2, .ref 55)] [.int (jminI (nI cap) (nI m)), .int 0, .ref nx, .int 0, .ref ed] (am_up M nx (.inl (3, m, .inr (.inr (.inr (.inr (fun _ => none))))))) (nx + 1) 1 (0 + m)
    rw [jminI_n (by omega) (by omega), show min cap m = cap from by omega]
    show am_V G _ _ _ _ _ 35 [(3, .ref nx), (0, .ref ed), (1, .int (nI m)), (2, .ref 55)] [.int (nI cap), .int 0, .ref nx, .int 0, .ref ed] (am_up M nx (.inl (3, m, .inr (.inr (.inr (.inr (fun _ => none))))))) (nx + 1) 1 (0 + m)
    refine v_copyq (am_Dk d_jR_copyOf2 (k := 20) rfl) am_cpA ((am_up_ne (show ed ≠ nx from by omega)).trans (he)) (am_up_eq _ _ _) cq_ok4 (am_at (k := 1487) (by decide +kernel) (by decide +kernel)) (fun i hi y hy => by obtain ⟨y9, fs9, g1, g2, g3⟩ := hE i hi; cases g1.symm.trans hy; exact ⟨fs9, (am_up_ne (by omega)).trans g3⟩) (by omega) (by omega) (by omega) (by omega) (by simp [Value.category]) ?_
    rw [am_uu0 (a := nx)]
    refine v_aload_n (am_Dk d_jR_copyOf2 (k := 21) rfl) rfl ?_
    exact v_areturn (am_Dk d_jR_copyOf2 (k := 22) rfl) rfl (Or.inr ⟨_, rfl⟩) (by omega) (by omega) ⟨rfl, rfl, rfl⟩
set_option maxRecDepth 20000 in
theorem t_jR_copyOf1 (G : am_G) {d nx : Nat} (hd : 2 ≤ d) {M : am_M} {ed cap m : Nat} {R : Nat → Option Nat} (he : M ed = some (.inl (3, cap, .inr (.inr (.inr (.inr R)))))) (hed : ed < nx) (hE : ∀ i, i < cap → ∃ y fs, R i = some y ∧ y < nx ∧ M y = some (.inr (4, fs))) (hcm : cap ≤ m) (hm : m < 100000) : am_Tr G m_jR_copyOf1 d 1 m [.ref ed, .int (nI m)] M nx (fun r M1 nx1 => r = .inl (some (.ref nx)) ∧ M1 = am_up M nx (.inl (3, m, .inr (.inr (.inr (.inr (va_cpy R (fun _ => none) 0 0 cap)))))) ∧ nx1 = nx + 1) := by
  refine am_TrOf (by decide) (Nat.le_of_ble_eq_true rfl) ?_
  show am_V G _ _ _ _ _ 0 [(0, .ref ed), (1, .int (nI m))] [] M nx 0 0
  refine v_aload_n (am_Dk d_jR_copyOf1 (k := 0) rfl) rfl ?_
  refine v_iload_n (am_Dk d_jR_copyOf1 (k := 1) rfl) rfl ?_
  refine v_aload_n (am_Dk d_jR_copyOf1 (k := 2) rfl) rfl ?_
  refine v_getC (am_Dk d_jR_copyOf1 (k := 3) rfl) (am_at (k := 870) (by decide +kernel) (by decide +kernel)) he (by omega) (by simp [Value.category]) ?_
  refine v_callS (rest := []) (As := [.ref ed, .int (nI m), .ref 55]) (mc' := 1) (ms' := m) (am_Dk d_jR_copyOf1 (k := 4) rfl) c_jR_300 (t_jR_copyOf2 G (d := 1) (by omega) he hed hE hcm hm) (by omega) (by omega) (by omega) (by simp [Value.category]) rfl (fun v1 M2 n3 h4 => ?_) (fun _ _ _ h4 => ?_)
  rotate_left
  · exact absurd h4.1 (by simp)
  obtain ⟨h4, e5, e6⟩ := h4
  replace e5 := e5.symm
  replace e6 := e6.symm
  subst e5
  subst e6
  cases h4
  show am_V G _ _ _ _ _ 9 [(0, .ref ed), (1, .int (nI m))] [.ref nx] (am_up M nx (.inl (3, m, .inr (.inr (.inr (.inr (va_cpy R (fun _ => none) 0 0 cap))))))) (nx + 1) 1 (0 + m)
  exact v_areturn (am_Dk d_jR_copyOf1 (k := 5) rfl) rfl (Or.inr ⟨_, rfl⟩) (by omega) (by omega) ⟨rfl, rfl, rfl⟩
set_option maxRecDepth 20000 in
theorem t_jA_grow2 (G : am_G) {d nx : Nat} (hd : 3 ≤ d) {M : am_M} {ed cap c : Nat} {mcn : Int32} {R : Nat → Option Nat} (h4 : M 1004 = some (.inr (3, [.int mcn, .ref ed, .int (nI c)]))) (hx : 1240 ≤ nx) (hc : c < 50) (hG : (ed = 54 ∧ c = 0) ∨ (1240 ≤ ed ∧ ed < nx ∧ M ed = some (.inl (3, cap, .inr (.inr (.inr (.inr R))))) ∧ 0 < cap ∧ cap = c)) (hE : ∀ i, i < c → ∃ y fs, R i = some y ∧ y < nx ∧ M y = some (.inr (4, fs))) : am_Tr G m_jA_grow2 d 1 75 [.ref 1004, .int (nI (c + 1))] M nx (fun r M1 nx1 => ∃ m R1, c < m ∧ m ≤ 75 ∧ (∀ i, i < c → R1 i = R i) ∧ r = .inl (some (.ref nx)) ∧ M1 = am_up (am_up M nx (.inl (3, m, .inr (.inr (.inr (.inr R1)))))) 1004 (.inr (3, [.int mcn, .ref nx, .int (nI c)])) ∧ nx1 = nx + 1) := by
  refine am_TrOf (by decide) (Nat.le_of_ble_eq_true rfl) ?_
  show am_V G _ _ _ _ _ 0 [(0, .ref 1004), (1, .int (nI (c + 1)))] [] M nx 0 0
  rcases hG with ⟨hed, hc0⟩ | ⟨g1, g2, he, g4, g5⟩
  · subst hed; subst hc0
    refine v_aload_n (am_Dk d_jA_grow2 (k := 0) rfl) rfl ?_
    refine v_get (am_Dk d_jA_grow2 (k := 1) rfl) f_jA_9 h4 rfl ?_
    refine v_tlen (v := 0) (am_Dk d_jA_grow2 (k := 2) rfl) (List.mem_of_getElem? (i := 4) rfl) (by decide) ?_
    refine v_istore_n (L1 := [(2, .int 0), (0, .ref 1004), (1, .int (nI (0 + 1)))]) (am_Dk d_jA_grow2 (k := 3) rfl) (by decide) rfl ?_
    refine v_iload_n (am_Dk d_jA_grow2 (k := 4) rfl) rfl ?_
    refine v_if_gt (tgt := 20) (am_Dk d_jA_grow2 (k := 5) rfl) (by decide) (fun c1 => ?_) (fun c1 => ?_)
    · exact absurd c1 (by decide)
    · have Nc1 : ¬ 0 < 0 := fun z => c1 ((nI_ltI (a := 0) (b := 0) (by omega) (by omega)).mpr z)
      refine v_aload_n (am_Dk d_jA_grow2 (k := 6) rfl) rfl ?_
      refine v_get (am_Dk d_jA_grow2 (k := 7) rfl) f_jA_9 h4 rfl ?_
      refine v_gets (v := .ref 54) (am_Dk d_jA_grow2 (k := 8) rfl) s_jA_39 (by decide +kernel) ?_
      refine v_acmp_eq (rx := (some 54)) (ry := (some 54)) (tgt := 45) (am_Dk d_jA_grow2 (k := 9) rfl) rfl rfl (by decide) (fun _ _ => rfl) (fun c2 => ?_) (fun c2 => ?_)
      · refine v_aload_n (am_Dk d_jA_grow2 (k := 27) rfl) rfl ?_
        refine v_bipush (v := 10) (am_Dk d_jA_grow2 (k := 28) rfl) (by decide) ?_
        refine v_iload_n (am_Dk d_jA_grow2 (k := 29) rfl) rfl ?_
        refine v_callS (rest := [.ref 1004]) (As := [.int 10, .int (nI (0 + 1))]) (mc' := 0) (ms' := 0) (am_Dk d_jA_grow2 (k := 30) rfl) c_jA_79 (t_jM_max2 G (d := 0) (by omega)) (by omega) (by omega) (by omega) (by simp [Value.category]) rfl (fun v3 M4 n5 h6 => ?_) (fun _ _ _ h6 => ?_)
        rotate_left
        · exact absurd h6.1 (by simp)
        obtain ⟨h6, e7, e8⟩ := h6
        replace e7 := e7.symm
        replace e8 := e8.symm
        subst e7
        subst e8
        cases h6
        show am_V G _ _ _ _ _ 52 [(2, .int 0), (0, .ref 1004), (1, .int (nI (0 + 1)))] [.int (jmaxI 10 (nI (0 + 1))), .ref 1004] M nx 0 0
        rw [show jmaxI 10 (nI (0 + 1)) = 10 from by decide]
        show am_V G _ _ _ _ _ 52 [(2, .int 0), (0, .ref 1004), (1, .int (nI (0 + 1)))] [.int 10, .ref 1004] M nx 0 0
        refine v_anew (t := 3) (N := 10) (am_Dk d_jA_grow2 (k := 31) rfl) n_jA_7 (List.mem_append_right _ (List.mem_of_getElem? (i := 899) (by decide +kernel))) rfl (by decide) (by decide) (by decide) (by omega) (by omega) ?_
        refine v_dup_x1 (am_Dk d_jA_grow2 (k := 32) rfl) rfl rfl ?_
        have m9 : (am_up M nx (.inl (3, 10, .inr (.inr (.inr (.inr (fun _ => none))))))) 1004 = some (.inr (3, [.int mcn, .ref 54, .int (nI 0)])) := (am_up_ne (show 1004 ≠ nx from by omega)).trans (h4)
        refine v_put (am_Dk d_jA_grow2 (k := 33) rfl) f_jA_9 m9 (Nat.le_of_ble_eq_true rfl) rfl rfl ?_
        exact v_areturn (am_Dk d_jA_grow2 (k := 34) rfl) rfl (Or.inr ⟨_, rfl⟩) (by omega) (by omega) ⟨10, (fun _ => none), by omega, by omega, (fun i hi => absurd hi (by omega)), rfl, rfl, rfl⟩
      · exact absurd rfl c2
  · subst g5
    refine v_aload_n (am_Dk d_jA_grow2 (k := 0) rfl) rfl ?_
    refine v_get (am_Dk d_jA_grow2 (k := 1) rfl) f_jA_9 h4 rfl ?_
    refine v_alen (am_Dk d_jA_grow2 (k := 2) rfl) he rfl rfl ?_
    show am_V G _ _ _ _ _ 5 [(0, .ref 1004), (1, .int (nI (cap + 1)))] [.int (nI cap)] M nx 0 0
    refine v_istore_n (L1 := [(2, .int (nI cap)), (0, .ref 1004), (1, .int (nI (cap + 1)))]) (am_Dk d_jA_grow2 (k := 3) rfl) (by decide) rfl ?_
    refine v_iload_n (am_Dk d_jA_grow2 (k := 4) rfl) rfl ?_
    refine v_if_gt (tgt := 20) (am_Dk d_jA_grow2 (k := 5) rfl) (by decide) (fun c1 => ?_) (fun c1 => ?_)
    · have Nc1 := (nI_ltI (a := 0) (b := cap) (by omega) (by omega)).mp c1
      refine v_iload_n (am_Dk d_jA_grow2 (k := 10) rfl) rfl ?_
      refine v_iload_n (am_Dk d_jA_grow2 (k := 11) rfl) rfl ?_
      refine v_iload_n (am_Dk d_jA_grow2 (k := 12) rfl) rfl ?_
      refine v_isub (am_Dk d_jA_grow2 (k := 13) rfl) ?_
      rw [nI_sub (by omega), show cap + 1 - cap = 1 from by omega]
      refine v_iload_n (am_Dk d_jA_grow2 (k := 14) rfl) rfl ?_
      refine v_iconst (v := 1) (am_Dk d_jA_grow2 (k := 15) rfl) (by decide) ?_
      refine v_ishr (am_Dk d_jA_grow2 (k := 16) rfl) ?_
      rw [show (nI cap >>> ((1 : Int32) &&& 31)) = nI (cap / 2) from pk_shrN (by omega) _ 1 (by decide)]
      refine v_callS (rest := []) (As := [.int (nI cap), .int (nI 1), .int (nI (cap / 2))]) (mc' := 0) (ms' := 0) (am_Dk d_jA_grow2 (k := 17) rfl) c_jA_73 (t_jU_newLength G (d := 1) (a := cap) (g := 1) (p := cap / 2) (by omega) (by omega) (by omega) (by omega) (by omega)) (by omega) (by omega) (by omega) (by simp [Value.category]) rfl (fun v2 M3 n4 h5 => ?_) (fun _ _ _ h5 => ?_)
      rotate_left
      · exact absurd h5.1 (by simp)
      obtain ⟨h5, e6, e7⟩ := h5
      replace e6 := e6.symm
      replace e7 := e7.symm
      subst e6
      subst e7
      cases h5
      show am_V G _ _ _ _ _ 30 [(2, .int (nI cap)), (0, .ref 1004), (1, .int (nI (cap + 1)))] [.int (nI (cap + max 1 (cap / 2)))] M nx 0 0
      refine v_istore_n (L1 := [(3, .int (nI (cap + max 1 (cap / 2)))), (2, .int (nI cap)), (0, .ref 1004), (1, .int (nI (cap + 1)))]) (am_Dk d_jA_grow2 (k := 18) rfl) (by decide) rfl ?_
      refine v_aload_n (am_Dk d_jA_grow2 (k := 19) rfl) rfl ?_
      refine v_aload_n (am_Dk d_jA_grow2 (k := 20) rfl) rfl ?_
      refine v_get (am_Dk d_jA_grow2 (k := 21) rfl) f_jA_9 h4 rfl ?_
      refine v_iload_n (am_Dk d_jA_grow2 (k := 22) rfl) rfl ?_
      refine v_callS (rest := [.ref 1004]) (As := [.ref ed, .int (nI (cap + max 1 (cap / 2)))]) (mc' := 1) (ms' := (cap + max 1 (cap / 2))) (am_Dk d_jA_grow2 (k := 23) rfl) c_jA_66 (t_jR_copyOf1 G (d := 2) (by omega) he g2 hE (by omega) (by omega)) (by omega) (by omega) (by omega) (by simp [Value.category]) rfl (fun v8 M9 n10 h11 => ?_) (fun _ _ _ h11 => ?_)
      rotate_left
      · exact absurd h11.1 (by simp)
      obtain ⟨h11, e12, e13⟩ := h11
      replace e12 := e12.symm
      replace e13 := e13.symm
      subst e12
      subst e13
      cases h11
      show am_V G _ _ _ _ _ 40 [(3, .int (nI (cap + max 1 (cap / 2)))), (2, .int (nI cap)), (0, .ref 1004), (1, .int (nI (cap + 1)))] [.ref nx, .ref 1004] (am_up M nx (.inl (3, (cap + max 1 (cap / 2)), .inr (.inr (.inr (.inr (va_cpy R (fun _ => none) 0 0 cap))))))) (nx + 1) 1 (0 + (cap + max 1 (cap / 2)))
      refine v_dup_x1 (am_Dk d_jA_grow2 (k := 24) rfl) rfl rfl ?_
      have m14 : (am_up M nx (.inl (3, (cap + max 1 (cap / 2)), .inr (.inr (.inr (.inr (va_cpy R (fun _ => none) 0 0 cap))))))) 1004 = some (.inr (3, [.int mcn, .ref ed, .int (nI cap)])) := (am_up_ne (show 1004 ≠ nx from by omega)).trans (h4)
      refine v_put (am_Dk d_jA_grow2 (k := 25) rfl) f_jA_9 m14 (Nat.le_of_ble_eq_true rfl) rfl rfl ?_
      exact v_areturn (am_Dk d_jA_grow2 (k := 26) rfl) rfl (Or.inr ⟨_, rfl⟩) (by omega) (by omega) ⟨cap + max 1 (cap / 2), va_cpy R (fun _ => none) 0 0 cap, by omega, by omega, (fun i hi => by rw [va_cpy, if_pos (by omega)]; congr 1; omega), rfl, rfl, rfl⟩
    · have Nc1 : ¬ 0 < cap := fun z => c1 ((nI_ltI (a := 0) (b := cap) (by omega) (by omega)).mpr z)
      exfalso
      omega
set_option maxRecDepth 20000 in
theorem t_jA_grow1 (G : am_G) {d nx : Nat} (hd : 4 ≤ d) {M : am_M} {ed cap c : Nat} {mcn : Int32} {R : Nat → Option Nat} (h4 : M 1004 = some (.inr (3, [.int mcn, .ref ed, .int (nI c)]))) (hx : 1240 ≤ nx) (hc : c < 50) (hG : (ed = 54 ∧ c = 0) ∨ (1240 ≤ ed ∧ ed < nx ∧ M ed = some (.inl (3, cap, .inr (.inr (.inr (.inr R))))) ∧ 0 < cap ∧ cap = c)) (hE : ∀ i, i < c → ∃ y fs, R i = some y ∧ y < nx ∧ M y = some (.inr (4, fs))) : am_Tr G m_jA_grow1 d 1 75 [.ref 1004] M nx (fun r M1 nx1 => ∃ m R1, c < m ∧ m ≤ 75 ∧ (∀ i, i < c → R1 i = R i) ∧ r = .inl (some (.ref nx)) ∧ M1 = am_up (am_up M nx (.inl (3, m, .inr (.inr (.inr (.inr R1)))))) 1004 (.inr (3, [.int mcn, .ref nx, .int (nI c)])) ∧ nx1 = nx + 1) := by
  refine am_TrOf (by decide) (Nat.le_of_ble_eq_true rfl) ?_
  show am_V G _ _ _ _ _ 0 [(0, .ref 1004)] [] M nx 0 0
  refine v_aload_n (am_Dk d_jA_grow1 (k := 0) rfl) rfl ?_
  refine v_aload_n (am_Dk d_jA_grow1 (k := 1) rfl) rfl ?_
  refine v_get (am_Dk d_jA_grow1 (k := 2) rfl) f_jA_48 h4 rfl ?_
  refine v_iconst (v := 1) (am_Dk d_jA_grow1 (k := 3) rfl) (by decide) ?_
  refine v_iadd (am_Dk d_jA_grow1 (k := 4) rfl) ?_
  rw [nI_1]
  refine v_callV (rest := []) (As := [.int (nI (c + 1))]) (mc' := 1) (ms' := 75) (am_Dk d_jA_grow1 (k := 5) rfl) c_jA_69 (Or.inl ⟨_, _, _, _, _, h4, cq_ok3⟩) (t_jA_grow2 G (d := 3) (cap := cap) (R := R) (by omega) h4 hx hc hG hE) (by omega) (by omega) (by omega) (by simp [Value.category]) rfl (fun v1 M2 n3 h4 => ?_) (fun _ _ _ h4 => ?_)
  rotate_left
  · obtain ⟨_, _, _, _, _, hx9, _⟩ := h4; cases hx9
  obtain ⟨m, R1, k1, k2, k3, h4, e8, e9⟩ := h4
  cases h4
  replace e8 := e8.symm
  replace e9 := e9.symm
  subst e8
  subst e9
  show am_V G _ _ _ _ _ 10 [(0, .ref 1004)] [.ref nx] (am_up (am_up M nx (.inl (3, m, .inr (.inr (.inr (.inr R1)))))) 1004 (.inr (3, [.int mcn, .ref nx, .int (nI c)]))) (nx + 1) 1 75
  exact v_areturn (am_Dk d_jA_grow1 (k := 6) rfl) rfl (Or.inr ⟨_, rfl⟩) (by omega) (by omega) ⟨m, R1, k1, k2, k3, rfl, rfl, rfl⟩
set_option maxRecDepth 20000 in
theorem t_jA_add2 (G : am_G) {d nx : Nat} (hd : 5 ≤ d) {M : am_M} {ed cap c x b : Nat} {mcn : Int32} {v : Int64} {R : Nat → Option Nat} (h4 : M 1004 = some (.inr (3, [.int mcn, .ref ed, .int (nI c)]))) (hx : 1240 ≤ nx) (hc : c < 50) (hG : (ed = 54 ∧ c = 0) ∨ (1240 ≤ ed ∧ ed < nx ∧ M ed = some (.inl (3, cap, .inr (.inr (.inr (.inr R))))) ∧ 0 < cap ∧ cap ≤ 75)) (hcc : c ≤ cap) (hE : ∀ i, i < c → ∃ y fs, R i = some y ∧ y < nx ∧ M y = some (.inr (4, fs))) (hxx : M x = some (.inr (4, [.ref b, .long v]))) (hxn : x < nx) : am_Tr G m_jA_add2 d 1 75 [.ref 1004, .ref x, .ref ed, .int (nI c)] M nx (fun r M1 nx1 => ∃ ed1 cap1 R1 mc1, r = .inl none ∧ nx ≤ nx1 ∧ nx1 ≤ nx + 1 ∧ M1 1004 = some (.inr (3, [.int mc1, .ref ed1, .int (nI (c + 1))])) ∧ M1 ed1 = some (.inl (3, cap1, .inr (.inr (.inr (.inr R1))))) ∧ 1240 ≤ ed1 ∧ ed1 < nx1 ∧ (ed1 = ed ∨ nx ≤ ed1) ∧ c + 1 ≤ cap1 ∧ cap1 ≤ 75 ∧ (∀ i, i < c → R1 i = R i) ∧ R1 c = some x ∧ ∀ i, ¬ i = 1004 → ¬ i = ed → i < nx → M1 i = M i) := by
  refine am_TrOf (by decide) (Nat.le_of_ble_eq_true rfl) ?_
  show am_V G _ _ _ _ _ 0 [(0, .ref 1004), (1, .ref x), (2, .ref ed), (3, .int (nI c))] [] M nx 0 0
  rcases hG with ⟨hed, hc0⟩ | ⟨g1, g2, he, g4, g5⟩
  · subst hed; subst hc0
    have hx4 : ¬ x = 1004 := fun z => by subst z; cases hxx.symm.trans h4
    refine v_iload_n (am_Dk d_jA_add2 (k := 0) rfl) rfl ?_
    refine v_aload_n (am_Dk d_jA_add2 (k := 1) rfl) rfl ?_
    refine v_tlen (v := 0) (am_Dk d_jA_add2 (k := 2) rfl) (List.mem_of_getElem? (i := 4) rfl) (by decide) ?_
    refine v_icmp_ne (tgt := 11) (am_Dk d_jA_add2 (k := 3) rfl) (by decide) (fun c1 => ?_) (fun c1 => ?_)
    · exact absurd (by decide) c1
    · have Nc1 := (nI_eq (a := 0) (b := 0) (by omega) (by omega)).mp c1
      refine v_aload_n (am_Dk d_jA_add2 (k := 4) rfl) rfl ?_
      refine v_callV (rest := []) (As := []) (mc' := 1) (ms' := 75) (am_Dk d_jA_add2 (k := 5) rfl) c_jA_129 (Or.inl ⟨_, _, _, _, _, h4, cq_ok3⟩) (t_jA_grow1 G (d := 4) (cap := cap) (R := R) (by omega) h4 hx (by omega) (Or.inl ⟨rfl, rfl⟩) hE) (by omega) (by omega) (by omega) (by simp [Value.category]) rfl (fun v2 M3 n4 h5 => ?_) (fun _ _ _ h5 => ?_)
      rotate_left
      · obtain ⟨_, _, _, _, _, hx9, _⟩ := h5; cases hx9
      obtain ⟨m, R1, k1, k2, k3, h5, e8, e9⟩ := h5
      cases h5
      replace e8 := e8.symm
      replace e9 := e9.symm
      subst e8
      subst e9
      show am_V G _ _ _ _ _ 10 [(0, .ref 1004), (1, .ref x), (2, .ref 54), (3, .int (nI 0))] [.ref nx] (am_up (am_up M nx (.inl (3, m, .inr (.inr (.inr (.inr R1)))))) 1004 (.inr (3, [.int mcn, .ref nx, .int (nI 0)]))) (nx + 1) 1 75
      refine v_astore_n (L1 := [(2, .ref nx), (0, .ref 1004), (1, .ref x), (3, .int (nI 0))]) (am_Dk d_jA_add2 (k := 6) rfl) (by decide) rfl ?_
      refine v_aload_n (am_Dk d_jA_add2 (k := 7) rfl) rfl ?_
      refine v_iload_n (am_Dk d_jA_add2 (k := 8) rfl) rfl ?_
      refine v_aload_n (am_Dk d_jA_add2 (k := 9) rfl) rfl ?_
      have m6 : (am_up (am_up M nx (.inl (3, m, .inr (.inr (.inr (.inr R1)))))) 1004 (.inr (3, [.int mcn, .ref nx, .int (nI 0)]))) nx = some (.inl (3, m, .inr (.inr (.inr (.inr R1))))) := (am_up_ne (show nx ≠ 1004 from by omega)).trans (am_up_eq _ _ _)
      have m7 : (am_up (am_up M nx (.inl (3, m, .inr (.inr (.inr (.inr R1)))))) 1004 (.inr (3, [.int mcn, .ref nx, .int (nI 0)]))) x = some (.inr (4, [.ref b, .long v])) := (am_up_ne (show x ≠ 1004 from by omega)).trans ((am_up_ne (show x ≠ nx from by omega)).trans (hxx))
      refine v_aast (am_Dk d_jA_add2 (k := 10) rfl) m6 rfl m7 cq_ok4 (Or.inr (am_at (k := 1487) (by decide +kernel) (by decide +kernel))) (vp_in_nI (by omega) (by omega)) ?_
      rw [nI_clamp (n := 0) (by omega)]
      rw [am_uu1 (a := nx)]
      refine v_aload_n (am_Dk d_jA_add2 (k := 11) rfl) rfl ?_
      refine v_iload_n (am_Dk d_jA_add2 (k := 12) rfl) rfl ?_
      refine v_iconst (v := 1) (am_Dk d_jA_add2 (k := 13) rfl) (by decide) ?_
      refine v_iadd (am_Dk d_jA_add2 (k := 14) rfl) ?_
      rw [nI_1]
      have m8 : (am_up (am_up M 1004 (.inr (3, [.int mcn, .ref nx, .int (nI 0)]))) nx (.inl (3, m, .inr (.inr (.inr (.inr (va_up R1 0 (some x)))))))) 1004 = some (.inr (3, [.int mcn, .ref nx, .int (nI 0)])) := (am_up_ne (show 1004 ≠ nx from by omega)).trans (am_up_eq _ _ _)
      refine v_put (am_Dk d_jA_add2 (k := 15) rfl) f_jA_48 m8 (Nat.le_of_ble_eq_true rfl) rfl rfl ?_
      rw [am_uu1 (a := 1004)]
      exact v_return (am_Dk d_jA_add2 (k := 16) rfl) rfl (by omega) (by omega) ⟨nx, m, _, _, rfl, by omega, by omega, am_up_eq _ _ _, (am_up_ne (show nx ≠ 1004 from by omega)).trans (am_up_eq _ _ _), by omega, Nat.lt_succ_self _, Or.inr (Nat.le_refl _), by omega, by omega, (fun i hi => by rw [va_up, if_neg (by omega)]; exact k3 i hi), (by rw [va_up, if_pos rfl]), fun i q1 q2 q3 => (am_up_ne (show i ≠ 1004 from by omega)).trans ((am_up_ne (show i ≠ nx from by omega)).trans (rfl))⟩
  · have hx4 : ¬ x = 1004 := fun z => by subst z; cases hxx.symm.trans h4
    have hxe : ¬ x = ed := fun z => by subst z; cases hxx.symm.trans he
    refine v_iload_n (am_Dk d_jA_add2 (k := 0) rfl) rfl ?_
    refine v_aload_n (am_Dk d_jA_add2 (k := 1) rfl) rfl ?_
    refine v_alen (am_Dk d_jA_add2 (k := 2) rfl) he rfl rfl ?_
    show am_V G _ _ _ _ _ 3 [(0, .ref 1004), (1, .ref x), (2, .ref ed), (3, .int (nI c))] [.int (nI cap), .int (nI c)] M nx 0 0
    refine v_icmp_ne (tgt := 11) (am_Dk d_jA_add2 (k := 3) rfl) (by decide) (fun c1 => ?_) (fun c1 => ?_)
    · have hcq : ¬ cap = c := fun z => c1 (by rw [z])
      refine v_aload_n (am_Dk d_jA_add2 (k := 7) rfl) rfl ?_
      refine v_iload_n (am_Dk d_jA_add2 (k := 8) rfl) rfl ?_
      refine v_aload_n (am_Dk d_jA_add2 (k := 9) rfl) rfl ?_
      refine v_aast (am_Dk d_jA_add2 (k := 10) rfl) he rfl hxx cq_ok4 (Or.inr (am_at (k := 1487) (by decide +kernel) (by decide +kernel))) (vp_in_nI (by omega) (by omega)) ?_
      rw [nI_clamp (n := c) (by omega)]
      refine v_aload_n (am_Dk d_jA_add2 (k := 11) rfl) rfl ?_
      refine v_iload_n (am_Dk d_jA_add2 (k := 12) rfl) rfl ?_
      refine v_iconst (v := 1) (am_Dk d_jA_add2 (k := 13) rfl) (by decide) ?_
      refine v_iadd (am_Dk d_jA_add2 (k := 14) rfl) ?_
      rw [nI_1]
      have m2 : (am_up M ed (.inl (3, cap, .inr (.inr (.inr (.inr (va_up R c (some x)))))))) 1004 = some (.inr (3, [.int mcn, .ref ed, .int (nI c)])) := (am_up_ne (show 1004 ≠ ed from by omega)).trans (h4)
      refine v_put (am_Dk d_jA_add2 (k := 15) rfl) f_jA_48 m2 (Nat.le_of_ble_eq_true rfl) rfl rfl ?_
      exact v_return (am_Dk d_jA_add2 (k := 16) rfl) rfl (by omega) (by omega) ⟨ed, cap, _, _, rfl, by omega, by omega, am_up_eq _ _ _, (am_up_ne (show ed ≠ 1004 from by omega)).trans (am_up_eq _ _ _), by omega, by omega, Or.inl rfl, by omega, by omega, (fun i hi => by rw [va_up, if_neg (by omega)]), (by rw [va_up, if_pos rfl]), fun i q1 q2 q3 => (am_up_ne (show i ≠ 1004 from by omega)).trans ((am_up_ne (show i ≠ ed from by omega)).trans (rfl))⟩
    · have hcq : cap = c := ((nI_eq (by omega) (by omega)).mp c1).symm
      refine v_aload_n (am_Dk d_jA_add2 (k := 4) rfl) rfl ?_
      refine v_callV (rest := []) (As := []) (mc' := 1) (ms' := 75) (am_Dk d_jA_add2 (k := 5) rfl) c_jA_129 (Or.inl ⟨_, _, _, _, _, h4, cq_ok3⟩) (t_jA_grow1 G (d := 4) (cap := cap) (R := R) (by omega) h4 hx (by omega) (Or.inr ⟨g1, g2, he, g4, hcq⟩) hE) (by omega) (by omega) (by omega) (by simp [Value.category]) rfl (fun v3 M4 n5 h6 => ?_) (fun _ _ _ h6 => ?_)
      rotate_left
      · obtain ⟨_, _, _, _, _, hx9, _⟩ := h6; cases hx9
      obtain ⟨m, R1, k1, k2, k3, h6, e8, e9⟩ := h6
      cases h6
      replace e8 := e8.symm
      replace e9 := e9.symm
      subst e8
      subst e9
      show am_V G _ _ _ _ _ 10 [(0, .ref 1004), (1, .ref x), (2, .ref ed), (3, .int (nI c))] [.ref nx] (am_up (am_up M nx (.inl (3, m, .inr (.inr (.inr (.inr R1)))))) 1004 (.inr (3, [.int mcn, .ref nx, .int (nI c)]))) (nx + 1) 1 75
      refine v_astore_n (L1 := [(2, .ref nx), (0, .ref 1004), (1, .ref x), (3, .int (nI c))]) (am_Dk d_jA_add2 (k := 6) rfl) (by decide) rfl ?_
      refine v_aload_n (am_Dk d_jA_add2 (k := 7) rfl) rfl ?_
      refine v_iload_n (am_Dk d_jA_add2 (k := 8) rfl) rfl ?_
      refine v_aload_n (am_Dk d_jA_add2 (k := 9) rfl) rfl ?_
      have m7 : (am_up (am_up M nx (.inl (3, m, .inr (.inr (.inr (.inr R1)))))) 1004 (.inr (3, [.int mcn, .ref nx, .int (nI c)]))) nx = some (.inl (3, m, .inr (.inr (.inr (.inr R1))))) := (am_up_ne (show nx ≠ 1004 from by omega)).trans (am_up_eq _ _ _)
      have m8 : (am_up (am_up M nx (.inl (3, m, .inr (.inr (.inr (.inr R1)))))) 1004 (.inr (3, [.int mcn, .ref nx, .int (nI c)]))) x = some (.inr (4, [.ref b, .long v])) := (am_up_ne (show x ≠ 1004 from by omega)).trans ((am_up_ne (show x ≠ nx from by omega)).trans (hxx))
      refine v_aast (am_Dk d_jA_add2 (k := 10) rfl) m7 rfl m8 cq_ok4 (Or.inr (am_at (k := 1487) (by decide +kernel) (by decide +kernel))) (vp_in_nI (by omega) (by omega)) ?_
      rw [nI_clamp (n := c) (by omega)]
      rw [am_uu1 (a := nx)]
      refine v_aload_n (am_Dk d_jA_add2 (k := 11) rfl) rfl ?_
      refine v_iload_n (am_Dk d_jA_add2 (k := 12) rfl) rfl ?_
      refine v_iconst (v := 1) (am_Dk d_jA_add2 (k := 13) rfl) (by decide) ?_
      refine v_iadd (am_Dk d_jA_add2 (k := 14) rfl) ?_
      rw [nI_1]
      have m9 : (am_up (am_up M 1004 (.inr (3, [.int mcn, .ref nx, .int (nI c)]))) nx (.inl (3, m, .inr (.inr (.inr (.inr (va_up R1 c (some x)))))))) 1004 = some (.inr (3, [.int mcn, .ref nx, .int (nI c)])) := (am_up_ne (show 1004 ≠ nx from by omega)).trans (am_up_eq _ _ _)
      refine v_put (am_Dk d_jA_add2 (k := 15) rfl) f_jA_48 m9 (Nat.le_of_ble_eq_true rfl) rfl rfl ?_
      rw [am_uu1 (a := 1004)]
      exact v_return (am_Dk d_jA_add2 (k := 16) rfl) rfl (by omega) (by omega) ⟨nx, m, _, _, rfl, by omega, by omega, am_up_eq _ _ _, (am_up_ne (show nx ≠ 1004 from by omega)).trans (am_up_eq _ _ _), by omega, Nat.lt_succ_self _, Or.inr (Nat.le_refl _), by omega, by omega, (fun i hi => by rw [va_up, if_neg (by omega)]; exact k3 i hi), (by rw [va_up, if_pos rfl]), fun i q1 q2 q3 => (am_up_ne (show i ≠ 1004 from by omega)).trans ((am_up_ne (show i ≠ nx from by omega)).trans (rfl))⟩
set_option maxRecDepth 20000 in
theorem t_jA_add1 (G : am_G) {d nx : Nat} (hd : 6 ≤ d) {M : am_M} {ed cap c x b : Nat} {mcn : Int32} {v : Int64} {R : Nat → Option Nat} (h4 : M 1004 = some (.inr (3, [.int mcn, .ref ed, .int (nI c)]))) (hx : 1240 ≤ nx) (hc : c < 50) (hG : (ed = 54 ∧ c = 0) ∨ (1240 ≤ ed ∧ ed < nx ∧ M ed = some (.inl (3, cap, .inr (.inr (.inr (.inr R))))) ∧ 0 < cap ∧ cap ≤ 75)) (hcc : c ≤ cap) (hE : ∀ i, i < c → ∃ y fs, R i = some y ∧ y < nx ∧ M y = some (.inr (4, fs))) (hxx : M x = some (.inr (4, [.ref b, .long v]))) (hxn : x < nx) : am_Tr G m_jA_add1 d 1 75 [.ref 1004, .ref x] M nx (fun r M1 nx1 => ∃ ed1 cap1 R1 mc1, r = .inl (some (.int 1)) ∧ nx ≤ nx1 ∧ nx1 ≤ nx + 1 ∧ M1 1004 = some (.inr (3, [.int mc1, .ref ed1, .int (nI (c + 1))])) ∧ M1 ed1 = some (.inl (3, cap1, .inr (.inr (.inr (.inr R1))))) ∧ 1240 ≤ ed1 ∧ ed1 < nx1 ∧ (ed1 = ed ∨ nx ≤ ed1) ∧ c + 1 ≤ cap1 ∧ cap1 ≤ 75 ∧ (∀ i, i < c → R1 i = R i) ∧ R1 c = some x ∧ ∀ i, ¬ i = 1004 → ¬ i = ed → i < nx → M1 i = M i) := by
  refine am_TrOf (by decide) (Nat.le_of_ble_eq_true rfl) ?_
  show am_V G _ _ _ _ _ 0 [(0, .ref 1004), (1, .ref x)] [] M nx 0 0
  have hx4 : ¬ x = 1004 := fun z => by subst z; cases hxx.symm.trans h4
  have he4 : ¬ ed = 1004 := by omega
  refine v_aload_n (am_Dk d_jA_add1 (k := 0) rfl) rfl ?_
  refine v_dup (am_Dk d_jA_add1 (k := 1) rfl) rfl ?_
  refine v_get (am_Dk d_jA_add1 (k := 2) rfl) f_jA_63 h4 rfl ?_
  refine v_iconst (v := 1) (am_Dk d_jA_add1 (k := 3) rfl) (by decide) ?_
  refine v_iadd (am_Dk d_jA_add1 (k := 4) rfl) ?_
  refine v_put (am_Dk d_jA_add1 (k := 5) rfl) f_jA_63 h4 (Nat.le_of_ble_eq_true rfl) rfl rfl ?_
  refine v_aload_n (am_Dk d_jA_add1 (k := 6) rfl) rfl ?_
  refine v_aload_n (am_Dk d_jA_add1 (k := 7) rfl) rfl ?_
  refine v_aload_n (am_Dk d_jA_add1 (k := 8) rfl) rfl ?_
  have m1 : (am_up M 1004 (.inr (3, [.int ((mcn) + (1)), .ref ed, .int (nI c)]))) 1004 = some (.inr (3, [.int ((mcn) + (1)), .ref ed, .int (nI c)])) := am_up_eq _ _ _
  refine v_get (am_Dk d_jA_add1 (k := 9) rfl) f_jA_9 m1 rfl ?_
  refine v_aload_n (am_Dk d_jA_add1 (k := 10) rfl) rfl ?_
  refine v_get (am_Dk d_jA_add1 (k := 11) rfl) f_jA_48 m1 rfl ?_
  refine v_callV (rest := []) (As := [.ref x, .ref ed, .int (nI c)]) (mc' := 1) (ms' := 75) (am_Dk d_jA_add1 (k := 12) rfl) c_jA_131 (Or.inl ⟨_, _, _, _, _, m1, cq_ok3⟩) (t_jA_add2 G (d := 5) (by omega) (am_up_eq _ _ _) hx hc (by rcases hG with g | ⟨g1, g2, g3, g4⟩; exact Or.inl g; exact Or.inr ⟨g1, g2, (am_up_ne (by omega)).trans g3, g4⟩) hcc (fun i hi => by obtain ⟨y, fs, y1, y2, y3⟩ := hE i hi; exact ⟨y, fs, y1, y2, (am_up_ne (fun z => by subst z; cases y3.symm.trans h4)).trans y3⟩) ((am_up_ne (show x ≠ 1004 from by omega)).trans (hxx)) hxn) (by omega) (by omega) (by omega) (by simp [Value.category]) rfl (fun v2 M3 n4 h5 => ?_) (fun _ _ _ h5 => ?_)
  rotate_left
  · obtain ⟨_, _, _, _, hx9, _⟩ := h5; cases hx9
  obtain ⟨ed1, cap1, R1, mc1, h5, p1, p2, p3, p4, p5, p6, p7, p8, p9, p10, p11, p12⟩ := h5
  cases h5
  show am_V G _ _ _ _ _ 23 [(0, .ref 1004), (1, .ref x)] [] M3 n4 1 75
  refine v_iconst (v := 1) (am_Dk d_jA_add1 (k := 13) rfl) (by decide) ?_
  exact v_ireturn (am_Dk d_jA_add1 (k := 14) rfl) rfl rfl (by omega) (by omega) ⟨ed1, cap1, R1, mc1, rfl, p1, p2, p3, p4, p5, p6, p7, p8, p9, p10, p11, fun i q1 q2 q3 => (p12 i q1 q2 q3).trans (am_up_ne q1)⟩
set_option maxRecDepth 20000 in
theorem t_Var_init (G : am_G) {d nx : Nat} (hd : 1 ≤ d) {M : am_M} {x b : Nat} {b0 : Value} {n0 v : Int64} (hxx : M x = some (.inr (4, [b0, .long n0]))) : am_Tr G m_Var_init d 0 0 [.ref x, .ref b, .long v] M nx (fun r M1 nx1 => r = .inl none ∧ M1 = am_up M x (.inr (4, [.ref b, .long v])) ∧ nx1 = nx) := by
  refine am_TrOf (by decide) (Nat.le_of_ble_eq_true rfl) ?_
  show am_V G _ _ _ _ _ 0 [(0, .ref x), (1, .ref b), (2, .long v)] [] M nx 0 0
  refine v_aload_n (am_Dk d_Var_init (k := 0) rfl) rfl ?_
  refine v_objInit (am_Dk d_Var_init (k := 1) rfl) o_Var_1 (by omega) (by simp [Value.category]) ?_
  refine v_aload_n (am_Dk d_Var_init (k := 2) rfl) rfl ?_
  refine v_aload_n (am_Dk d_Var_init (k := 3) rfl) rfl ?_
  refine v_putF (am_Dk d_Var_init (k := 4) rfl) f_Var_7 rfl hxx (Nat.le_of_ble_eq_true rfl) rfl rfl ?_
  refine v_aload_n (am_Dk d_Var_init (k := 5) rfl) rfl ?_
  refine v_lload_n (am_Dk d_Var_init (k := 6) rfl) rfl ?_
  have m1 : (am_up M x (.inr (4, [.ref b, .long n0]))) x = some (.inr (4, [.ref b, .long n0])) := am_up_eq _ _ _
  refine v_put (am_Dk d_Var_init (k := 7) rfl) f_Var_13 m1 (Nat.le_of_ble_eq_true rfl) rfl rfl ?_
  rw [am_uu0 (a := x)]
  exact v_return (am_Dk d_Var_init (k := 8) rfl) rfl (by omega) (by omega) ⟨rfl, rfl, rfl⟩
set_option maxRecDepth 20000 in
theorem t_Vars_isFull (G : am_G) {d nx : Nat} (hd : 1 ≤ d) {M : am_M} {el : Value} {mcn : Int32} {c : Nat} (h3 : M 1003 = some (.inr (2, [.ref 1004]))) (h4 : M 1004 = some (.inr (3, [.int mcn, el, .int (nI c)]))) (hc : c ≤ 50) : am_Tr G m_Vars_isFull d 0 0 [.ref 1003] M nx (fun r M1 nx1 => r = .inl (some (.int (bi (decide (c = 50))))) ∧ M1 = M ∧ nx1 = nx) := by
  refine am_TrOf (by decide) (Nat.le_of_ble_eq_true rfl) ?_
  show am_V G _ _ _ _ _ 0 [(0, .ref 1003)] [] M nx 0 0
  refine v_aload_n (am_Dk d_Vars_isFull (k := 0) rfl) rfl ?_
  refine v_get (am_Dk d_Vars_isFull (k := 1) rfl) f_Vars_12 h3 rfl ?_
  refine v_callV (rest := []) (As := []) (mc' := 0) (ms' := 0) (am_Dk d_Vars_isFull (k := 2) rfl) c_Vars_18 (Or.inl ⟨_, _, _, _, _, h4, cq_ok3⟩) (t_jA_size G (d := 0) (by omega) h4) (by omega) (by omega) (by omega) (by simp [Value.category]) rfl (fun v1 M2 n3 h4 => ?_) (fun _ _ _ h4 => ?_)
  rotate_left
  · exact absurd h4.1 (by simp)
  obtain ⟨h4, e5, e6⟩ := h4
  replace e5 := e5.symm
  replace e6 := e6.symm
  subst e5
  subst e6
  cases h4
  show am_V G _ _ _ _ _ 7 [(0, .ref 1003)] [.int (nI c)] M nx 0 0
  refine v_bipush (v := 50) (am_Dk d_Vars_isFull (k := 3) rfl) (by decide) ?_
  refine v_icmp_lt (tgt := 16) (am_Dk d_Vars_isFull (k := 4) rfl) (by decide) (fun c7 => ?_) (fun c7 => ?_)
  · have Nc7 := (nI_ltI (a := c) (b := 50) (by omega) (by omega)).mp c7
    refine v_iconst (v := 0) (am_Dk d_Vars_isFull (k := 7) rfl) (by decide) ?_
    exact v_ireturn (am_Dk d_Vars_isFull (k := 8) rfl) rfl rfl (by omega) (by omega) ⟨by rw [decide_eq_false (by omega)]; rfl, rfl, rfl⟩
  · have Nc7 : ¬ c < 50 := fun z => c7 ((nI_ltI (a := c) (b := 50) (by omega) (by omega)).mpr z)
    refine v_iconst (v := 1) (am_Dk d_Vars_isFull (k := 5) rfl) (by decide) ?_
    refine v_goto (tgt := 17) (am_Dk d_Vars_isFull (k := 6) rfl) (by decide) ?_
    exact v_ireturn (am_Dk d_Vars_isFull (k := 8) rfl) rfl rfl (by omega) (by omega) ⟨by rw [decide_eq_true (by omega)]; rfl, rfl, rfl⟩
