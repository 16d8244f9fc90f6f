/-! THE REFERENCE'S SIGNS (mine; rows laid by the walker) -/
theorem lt_nar {a : Int32} (h : -128 ≤ a.toInt ∧ a.toInt ≤ 127) : vp_nar .byte (Int8.toInt32 (Int32.toInt8 a)) = a := by
  rw [pk_vb]
  apply Int32.toInt_inj.mp
  rw [Int8.toInt_toInt32, Int32.toInt_toInt8]
  exact Int.bmod_eq_of_le (by omega) (by omega)
theorem am_up_id {M : am_M} {a : Nat} {o : am_O} (h : M a = some o) : am_up M a o = M := by
  funext b
  by_cases hb : b = a
  · subst hb
    rw [am_up_eq, h]
  · exact am_up_ne hb
theorem am_V_eq {G : am_G} {Y : am_Y} {d mc ms : Nat} {Q : am_Qt} {pc : Nat} {L : List (Nat × Value)} {st : List Value} {M M' : am_M} {nx cn sn : Nat} (h : M' = M) (k : am_V G Y d mc ms Q pc L st M' nx cn sn) : am_V G Y d mc ms Q pc L st M nx cn sn := h ▸ k
theorem tbB_up {g : Nat → Int32} (hg : tbB g) {l : Nat} {x : Int32} (hx : -128 ≤ x.toInt ∧ x.toInt ≤ 127) : tbB (upd g l x) := by
  intro i
  rw [upd]
  split
  · exact hx
  · exact hg i
theorem sy_S : am_Str 161 261 [43, 45, 42, 47, 92, 94, 60, 62, 61, 126, 58, 46, 63, 64, 35, 38, 36] := ⟨by decide +kernel, by decide +kernel, by decide +kernel, by decide +kernel, by decide +kernel, by decide +kernel⟩
def ixF (w : List Nat) (x : Int32) : Nat → Nat → Int32
  | 0, _ => -1
  | m + 1, i => if nI (w.getD i 0) = x then nI i else ixF w x m (i + 1)
def jmaxI (a b : Int32) : Int32 := if b ≤ a then a else b
set_option maxRecDepth 20000 in
theorem t_jM_max2 (G : am_G) {d nx : Nat} (hd : 0 ≤ d) {M : am_M} {a b : Int32} : am_Tr G m_jM_max2 d 0 0 [.int a, .int b] M nx (fun r M1 nx1 => r = .inl (some (.int (jmaxI a b))) ∧ M1 = M ∧ nx1 = nx) := by
  refine am_TrOfF (by decide +kernel) (Nat.le_of_ble_eq_true rfl) ?_
  show am_V G _ _ _ _ _ 0 [(0, .int a), (1, .int b)] [] M nx 0 0
  refine v_iload_n (am_Dk d_jM_max2 (k := 0) rfl) rfl ?_
  refine v_iload_n (am_Dk d_jM_max2 (k := 1) rfl) rfl ?_
  refine v_icmp_lt (tgt := 9) (am_Dk d_jM_max2 (k := 2) rfl) (by decide) (fun c1 => ?_) (fun c1 => ?_)
  · refine v_iload_n (am_Dk d_jM_max2 (k := 5) rfl) rfl ?_
    exact v_ireturn (am_Dk d_jM_max2 (k := 6) rfl) rfl rfl (by omega) (by omega) ⟨by rw [jmaxI, if_neg (by first | assumption | exact Int32.not_le.mpr (by assumption))], rfl, rfl⟩
  · refine v_iload_n (am_Dk d_jM_max2 (k := 3) rfl) rfl ?_
    refine v_goto (tgt := 10) (am_Dk d_jM_max2 (k := 4) rfl) (by decide) ?_
    exact v_ireturn (am_Dk d_jM_max2 (k := 6) rfl) rfl rfl (by omega) (by omega) ⟨by rw [jmaxI, if_pos (by first | assumption | exact Int32.not_lt.mp (by assumption))], rfl, rfl⟩
def jminI (a b : Int32) : Int32 := if a ≤ b then a else b
set_option maxRecDepth 20000 in
theorem t_jM_min2 (G : am_G) {d nx : Nat} (hd : 0 ≤ d) {M : am_M} {a b : Int32} : am_Tr G m_jM_min2 d 0 0 [.int a, .int b] M nx (fun r M1 nx1 => r = .inl (some (.int (jminI a b))) ∧ M1 = M ∧ nx1 = nx) := by
  refine am_TrOfF (by decide +kernel) (Nat.le_of_ble_eq_true rfl) ?_
  show am_V G _ _ _ _ _ 0 [(0, .int a), (1, .int b)] [] M nx 0 0
  refine v_iload_n (am_Dk d_jM_min2 (k := 0) rfl) rfl ?_
  refine v_iload_n (am_Dk d_jM_min2 (k := 1) rfl) rfl ?_
  refine v_icmp_gt (tgt := 9) (am_Dk d_jM_min2 (k := 2) rfl) (by decide) (fun c1 => ?_) (fun c1 => ?_)
  · refine v_iload_n (am_Dk d_jM_min2 (k := 5) rfl) rfl ?_
    exact v_ireturn (am_Dk d_jM_min2 (k := 6) rfl) rfl rfl (by omega) (by omega) ⟨by rw [jminI, if_neg (by first | assumption | exact Int32.not_le.mpr (by assumption))], rfl, rfl⟩
  · refine v_iload_n (am_Dk d_jM_min2 (k := 3) rfl) rfl ?_
    refine v_goto (tgt := 10) (am_Dk d_jM_min2 (k := 4) rfl) (by decide) ?_
    exact v_ireturn (am_Dk d_jM_min2 (k := 6) rfl) rfl rfl (by omega) (by omega) ⟨by rw [jminI, if_pos (by first | assumption | exact Int32.not_lt.mp (by assumption))], rfl, rfl⟩
set_option maxRecDepth 20000 in
theorem l_jL_indexOfChar1 (G : am_G) {d nx : Nat} {M : am_M} {S B : Nat} {w : List Nat} (hS : am_Str S B w) {x : Int32} : ∀ m i, i + m = w.length → ixF w x m i = ixF w x w.length 0 → am_V G m_jL_indexOfChar d 0 0 (fun r M1 nx1 => r = .inl (some (.int (ixF w x w.length 0))) ∧ M1 = M ∧ nx1 = nx) 7 [(5, .int (nI i)), (4, .int x), (0, .ref B), (1, .int x), (2, .int 0), (3, .int (nI w.length))] [] M nx 0 0 := by
  have hl := hS.2.2.2.2.1
  intro m
  induction m with
  | zero =>
    intro i him hall
    refine v_iload (am_Dk d_jL_indexOfChar (k := 5) rfl) rfl ?_
    refine v_iload_n (am_Dk d_jL_indexOfChar (k := 6) rfl) rfl ?_
    refine v_icmp_ge (tgt := 31) (am_Dk d_jL_indexOfChar (k := 7) rfl) (by decide) (fun c1 => ?_) (fun c1 => ?_)
    · have Nc1 := (nI_leI (a := w.length) (b := i) (by omega) (by omega)).mp c1
      refine v_iconst (v := (-1)) (am_Dk d_jL_indexOfChar (k := 17) rfl) (by decide) ?_
      exact v_ireturn (am_Dk d_jL_indexOfChar (k := 18) rfl) rfl rfl (by omega) (by omega) ⟨by rw [← hall]; rfl, rfl, rfl⟩
    · have Nc1 : ¬ w.length ≤ i := fun z => c1 ((nI_leI (a := w.length) (b := i) (by omega) (by omega)).mpr z)
      exfalso
      omega
  | succ m ih =>
    intro i him hall
    refine v_iload (am_Dk d_jL_indexOfChar (k := 5) rfl) rfl ?_
    refine v_iload_n (am_Dk d_jL_indexOfChar (k := 6) rfl) rfl ?_
    refine v_icmp_ge (tgt := 31) (am_Dk d_jL_indexOfChar (k := 7) rfl) (by decide) (fun c1 => ?_) (fun c1 => ?_)
    · have Nc1 := (nI_leI (a := w.length) (b := i) (by omega) (by omega)).mp c1
      exfalso
      omega
    · have Nc1 : ¬ w.length ≤ i := fun z => c1 ((nI_leI (a := w.length) (b := i) (by omega) (by omega)).mpr z)
      refine v_aload_n (am_Dk d_jL_indexOfChar (k := 8) rfl) rfl ?_
      refine v_iload (am_Dk d_jL_indexOfChar (k := 9) rfl) rfl ?_
      refine v_tbald (v := .int (nI (w.getD i 0))) (am_Dk d_jL_indexOfChar (k := 10) rfl) hS.2.2.2.1 (by rw [List.length_map]; exact vp_in_nI (by omega) (by omega)) (by rw [nI_clamp (n := i) (by omega)]; exact st_mapD (by omega)) ?_
      refine v_iload (am_Dk d_jL_indexOfChar (k := 11) rfl) rfl ?_
      refine v_icmp_ne (tgt := 25) (am_Dk d_jL_indexOfChar (k := 12) rfl) (by decide) (fun c2 => ?_) (fun c2 => ?_)
      · refine v_iinc (v := nI (i + 1)) (L1 := [(5, .int (nI (i + 1))), (4, .int x), (0, .ref B), (1, .int x), (2, .int 0), (3, .int (nI w.length))]) (am_Dk d_jL_indexOfChar (k := 15) rfl) rfl (nI_1 _) (by decide) rfl ?_
        refine v_goto (tgt := 7) (am_Dk d_jL_indexOfChar (k := 16) rfl) (by decide) ?_
        exact ih (i + 1) (by omega) (by rw [← hall, ixF, if_neg (by assumption)])
      · refine v_iload (am_Dk d_jL_indexOfChar (k := 13) rfl) rfl ?_
        exact v_ireturn (am_Dk d_jL_indexOfChar (k := 14) rfl) rfl rfl (by omega) (by omega) ⟨by rw [← hall, ixF, if_pos (by assumption)], rfl, rfl⟩
set_option maxRecDepth 20000 in
theorem t_jL_indexOfChar (G : am_G) {d nx : Nat} (hd : 0 ≤ d) {M : am_M} {S B : Nat} {w : List Nat} (hS : am_Str S B w) {x : Int32} (hx : -128 ≤ x.toInt ∧ x.toInt ≤ 127) : am_Tr G m_jL_indexOfChar d 0 0 [.ref B, .int x, .int 0, .int (nI w.length)] M nx (fun r M1 nx1 => r = .inl (some (.int (ixF w x w.length 0))) ∧ M1 = M ∧ nx1 = nx) := by
  refine am_TrOf (by decide) (Nat.le_of_ble_eq_true rfl) ?_
  show am_V G _ _ _ _ _ 0 [(0, .ref B), (1, .int x), (2, .int 0), (3, .int (nI w.length))] [] M nx 0 0
  refine v_iload_n (am_Dk d_jL_indexOfChar (k := 0) rfl) rfl ?_
  refine v_i2b (am_Dk d_jL_indexOfChar (k := 1) rfl) rfl ?_
  rw [show Int8.toInt32 (Int32.toInt8 x) = x from by rw [← pk_vb]; exact lt_nar hx]
  refine v_istore (L1 := [(4, .int x), (0, .ref B), (1, .int x), (2, .int 0), (3, .int (nI w.length))]) (am_Dk d_jL_indexOfChar (k := 2) rfl) (by decide) rfl ?_
  refine v_iload_n (am_Dk d_jL_indexOfChar (k := 3) rfl) rfl ?_
  refine v_istore (L1 := [(5, .int 0), (4, .int x), (0, .ref B), (1, .int x), (2, .int 0), (3, .int (nI w.length))]) (am_Dk d_jL_indexOfChar (k := 4) rfl) (by decide) rfl ?_
  exact l_jL_indexOfChar1 G hS w.length 0 (by omega) rfl
set_option maxRecDepth 20000 in
theorem t_jL_indexOf (G : am_G) {d nx : Nat} (hd : 1 ≤ d) {M : am_M} {S B : Nat} {w : List Nat} (hS : am_Str S B w) {x : Int32} (hx : 0 ≤ x.toInt ∧ x.toInt ≤ 127) (hw0 : 0 < w.length) : am_Tr G m_jL_indexOf d 0 0 [.ref B, .int x, .int 0, .int (nI w.length)] M nx (fun r M1 nx1 => r = .inl (some (.int (ixF w x w.length 0))) ∧ M1 = M ∧ nx1 = nx) := by
  refine am_TrOf (by decide) (Nat.le_of_ble_eq_true rfl) ?_
  show am_V G _ _ _ _ _ 0 [(0, .ref B), (1, .int x), (2, .int 0), (3, .int (nI w.length))] [] M nx 0 0
  have hx2 := hx
  replace hx : -128 ≤ x.toInt ∧ x.toInt ≤ 127 := ⟨by omega, by omega⟩
  have hl := hS.2.2.2.2.1
  refine v_iload_n (am_Dk d_jL_indexOf (k := 0) rfl) rfl ?_
  refine v_callS (rest := []) (As := [.int x]) (mc' := 0) (ms' := 0) (am_Dk d_jL_indexOf (k := 1) rfl) c_jL_88 (t_jL_canEncode G (d := 0)) (by omega) (by omega) (by omega) (by simp [Value.category]) rfl (fun v1 M2 n3 h4 => ?_) (fun _ _ _ h4 => ?_)
  rotate_left
  · exact absurd h4.1 (by simp)
  obtain ⟨h4, e5, e6⟩ := h4
  replace e5 := e5.symm
  replace e6 := e6.symm
  subst e5
  subst e6
  cases h4
  show am_V G _ _ _ _ _ 4 [(0, .ref B), (1, .int x), (2, .int 0), (3, .int (nI w.length))] [.int (bi (decide (0 ≤ x.toInt ∧ x.toInt ≤ 255)))] M nx 0 0
  refine v_if_ne (tgt := 9) (am_Dk d_jL_indexOf (k := 2) rfl) (by decide) (fun c7 => ?_) (fun c7 => ?_)
  · have Nc7 := bi1 c7
    refine v_iload_n (am_Dk d_jL_indexOf (k := 5) rfl) rfl ?_
    refine v_iconst (v := 0) (am_Dk d_jL_indexOf (k := 6) rfl) (by decide) ?_
    refine v_callS (rest := []) (As := [.int 0, .int 0]) (mc' := 0) (ms' := 0) (am_Dk d_jL_indexOf (k := 7) rfl) c_jL_92 (t_jM_max2 G (d := 0) (by omega)) (by omega) (by omega) (by omega) (by simp [Value.category]) rfl (fun v8 M9 n10 h11 => ?_) (fun _ _ _ h11 => ?_)
    rotate_left
    · exact absurd h11.1 (by simp)
    obtain ⟨h11, e12, e13⟩ := h11
    replace e12 := e12.symm
    replace e13 := e13.symm
    subst e12
    subst e13
    cases h11
    show am_V G _ _ _ _ _ 14 [(0, .ref B), (1, .int x), (2, .int 0), (3, .int (nI w.length))] [.int (jmaxI 0 0)] M nx 0 0
    rw [show jmaxI 0 0 = 0 from by decide]
    show am_V G _ _ _ _ _ 14 [(0, .ref B), (1, .int x), (2, .int 0), (3, .int (nI w.length))] [.int 0] M nx 0 0
    refine v_istore_n (L1 := [(2, .int 0), (0, .ref B), (1, .int x), (3, .int (nI w.length))]) (am_Dk d_jL_indexOf (k := 8) rfl) (by decide) rfl ?_
    refine v_iload_n (am_Dk d_jL_indexOf (k := 9) rfl) rfl ?_
    refine v_aload_n (am_Dk d_jL_indexOf (k := 10) rfl) rfl ?_
    refine v_tlen (v := nI w.length) (am_Dk d_jL_indexOf (k := 11) rfl) hS.2.2.2.1 (by rw [List.length_map]; rfl) ?_
    refine v_callS (rest := []) (As := [.int (nI w.length), .int (nI w.length)]) (mc' := 0) (ms' := 0) (am_Dk d_jL_indexOf (k := 12) rfl) c_jL_38 (t_jM_min2 G (d := 0) (by omega)) (by omega) (by omega) (by omega) (by simp [Value.category]) rfl (fun v14 M15 n16 h17 => ?_) (fun _ _ _ h17 => ?_)
    rotate_left
    · exact absurd h17.1 (by simp)
    obtain ⟨h17, e18, e19⟩ := h17
    replace e18 := e18.symm
    replace e19 := e19.symm
    subst e18
    subst e19
    cases h17
    show am_V G _ _ _ _ _ 21 [(2, .int 0), (0, .ref B), (1, .int x), (3, .int (nI w.length))] [.int (jminI (nI w.length) (nI w.length))] M nx 0 0
    rw [show jminI (nI w.length) (nI w.length) = nI w.length from by rw [jminI, if_pos (by exact Int32.le_refl _)]]
    show am_V G _ _ _ _ _ 21 [(2, .int 0), (0, .ref B), (1, .int x), (3, .int (nI w.length))] [.int (nI w.length)] M nx 0 0
    refine v_istore_n (L1 := [(3, .int (nI w.length)), (2, .int 0), (0, .ref B), (1, .int x)]) (am_Dk d_jL_indexOf (k := 13) rfl) (by decide) rfl ?_
    refine v_iload_n (am_Dk d_jL_indexOf (k := 14) rfl) rfl ?_
    refine v_iload_n (am_Dk d_jL_indexOf (k := 15) rfl) rfl ?_
    refine v_icmp_lt (tgt := 29) (am_Dk d_jL_indexOf (k := 16) rfl) (by decide) (fun c20 => ?_) (fun c20 => ?_)
    · have Nc20 := (nI_ltI (a := 0) (b := w.length) (by omega) (by omega)).mp c20
      refine v_aload_n (am_Dk d_jL_indexOf (k := 19) rfl) rfl ?_
      refine v_iload_n (am_Dk d_jL_indexOf (k := 20) rfl) rfl ?_
      refine v_iload_n (am_Dk d_jL_indexOf (k := 21) rfl) rfl ?_
      refine v_iload_n (am_Dk d_jL_indexOf (k := 22) rfl) rfl ?_
      refine v_callS (rest := []) (As := [.ref B, .int x, .int 0, .int (nI w.length)]) (mc' := 0) (ms' := 0) (am_Dk d_jL_indexOf (k := 23) rfl) c_jL_95 (t_jL_indexOfChar G (d := 0) (by omega) hS hx) (by omega) (by omega) (by omega) (by simp [Value.category]) rfl (fun v21 M22 n23 h24 => ?_) (fun _ _ _ h24 => ?_)
      rotate_left
      · exact absurd h24.1 (by simp)
      obtain ⟨h24, e25, e26⟩ := h24
      replace e25 := e25.symm
      replace e26 := e26.symm
      subst e25
      subst e26
      cases h24
      show am_V G _ _ _ _ _ 36 [(3, .int (nI w.length)), (2, .int 0), (0, .ref B), (1, .int x)] [.int (ixF w x w.length 0)] M nx 0 0
      exact v_ireturn (am_Dk d_jL_indexOf (k := 24) rfl) rfl rfl (by omega) (by omega) ⟨rfl, rfl, rfl⟩
    · have Nc20 : ¬ 0 < w.length := fun z => c20 ((nI_ltI (a := 0) (b := w.length) (by omega) (by omega)).mpr z)
      exfalso
      omega
  · exact absurd (decide_eq_true ⟨by omega, by omega⟩) (ne_true_of_eq_false (bi0.mp c7))
set_option maxRecDepth 20000 in
theorem t_jS_indexOf2 (G : am_G) {d nx : Nat} (hd : 2 ≤ d) {M : am_M} {S B : Nat} {w : List Nat} (hS : am_Str S B w) {x : Int32} (hx : 0 ≤ x.toInt ∧ x.toInt ≤ 127) (hw0 : 0 < w.length) : am_Tr G m_jS_indexOf2 d 0 0 [.ref S, .int x, .int 0] M nx (fun r M1 nx1 => r = .inl (some (.int (ixF w x w.length 0))) ∧ M1 = M ∧ nx1 = nx) := by
  refine am_TrOf (by decide) (Nat.le_of_ble_eq_true rfl) ?_
  show am_V G _ _ _ _ _ 0 [(0, .ref S), (1, .int x), (2, .int 0)] [] M nx 0 0
  refine v_aload_n (am_Dk d_jS_indexOf2 (k := 0) rfl) rfl ?_
  refine v_callV (rest := []) (As := []) (mc' := 0) (ms' := 0) (am_Dk d_jS_indexOf2 (k := 1) rfl) c_jS_492 (Or.inr hS.1) (t_jS_isLatin1 G (d := 0) (by omega) hS) (by omega) (by omega) (by omega) (by simp [Value.category]) rfl (fun v1 M2 n3 h4 => ?_) (fun _ _ _ h4 => ?_)
  rotate_left
  · exact absurd h4.1 (by simp)
  obtain ⟨h4, e5, e6⟩ := h4
  replace e5 := e5.symm
  replace e6 := e6.symm
  subst e5
  subst e6
  cases h4
  show am_V G _ _ _ _ _ 4 [(0, .ref S), (1, .int x), (2, .int 0)] [.int 1] M nx 0 0
  refine v_if_eq (tgt := 23) (am_Dk d_jS_indexOf2 (k := 2) rfl) (by decide) (fun c7 => ?_) (fun c7 => ?_)
  · exact absurd c7 (by decide)
  · have Nc7 : ¬ 1 = 0 := fun z => c7 ((nI_eq (a := 1) (b := 0) (by omega) (by omega)).mpr z)
    refine v_aload_n (am_Dk d_jS_indexOf2 (k := 3) rfl) rfl ?_
    refine v_getK (i := S) (v := .ref B) (am_Dk d_jS_indexOf2 (k := 4) rfl) g_jS_9 (Or.inl rfl) hS.2.2.1 ?_
    refine v_iload_n (am_Dk d_jS_indexOf2 (k := 5) rfl) rfl ?_
    refine v_iload_n (am_Dk d_jS_indexOf2 (k := 6) rfl) rfl ?_
    refine v_aload_n (am_Dk d_jS_indexOf2 (k := 7) rfl) rfl ?_
    refine v_callV (rest := [.int 0, .int x, .ref B]) (As := []) (mc' := 0) (ms' := 0) (am_Dk d_jS_indexOf2 (k := 8) rfl) c_jS_505 (Or.inr hS.1) (t_jS_length G (d := 1) (by omega) hS) (by omega) (by omega) (by omega) (by simp [Value.category]) rfl (fun v8 M9 n10 h11 => ?_) (fun _ _ _ h11 => ?_)
    rotate_left
    · exact absurd h11.1 (by simp)
    obtain ⟨h11, e12, e13⟩ := h11
    replace e12 := e12.symm
    replace e13 := e13.symm
    subst e12
    subst e13
    cases h11
    show am_V G _ _ _ _ _ 17 [(0, .ref S), (1, .int x), (2, .int 0)] [.int (nI w.length), .int 0, .int x, .ref B] M nx 0 0
    refine v_callS (rest := []) (As := [.ref B, .int x, .int 0, .int (nI w.length)]) (mc' := 0) (ms' := 0) (am_Dk d_jS_indexOf2 (k := 9) rfl) c_jS_637 (t_jL_indexOf G (d := 1) (by omega) hS hx hw0) (by omega) (by omega) (by omega) (by simp [Value.category]) rfl (fun v14 M15 n16 h17 => ?_) (fun _ _ _ h17 => ?_)
    rotate_left
    · exact absurd h17.1 (by simp)
    obtain ⟨h17, e18, e19⟩ := h17
    replace e18 := e18.symm
    replace e19 := e19.symm
    subst e18
    subst e19
    cases h17
    show am_V G _ _ _ _ _ 20 [(0, .ref S), (1, .int x), (2, .int 0)] [.int (ixF w x w.length 0)] M nx 0 0
    refine v_goto (tgt := 36) (am_Dk d_jS_indexOf2 (k := 10) rfl) (by decide) ?_
    exact v_ireturn (am_Dk d_jS_indexOf2 (k := 18) rfl) rfl rfl (by omega) (by omega) ⟨rfl, rfl, rfl⟩
set_option maxRecDepth 20000 in
theorem t_jS_indexOf1 (G : am_G) {d nx : Nat} (hd : 3 ≤ d) {M : am_M} {S B : Nat} {w : List Nat} (hS : am_Str S B w) {x : Int32} (hx : 0 ≤ x.toInt ∧ x.toInt ≤ 127) (hw0 : 0 < w.length) : am_Tr G m_jS_indexOf1 d 0 0 [.ref S, .int x] M nx (fun r M1 nx1 => r = .inl (some (.int (ixF w x w.length 0))) ∧ M1 = M ∧ nx1 = nx) := by
  refine am_TrOf (by decide) (Nat.le_of_ble_eq_true rfl) ?_
  show am_V G _ _ _ _ _ 0 [(0, .ref S), (1, .int x)] [] M nx 0 0
  refine v_aload_n (am_Dk d_jS_indexOf1 (k := 0) rfl) rfl ?_
  refine v_iload_n (am_Dk d_jS_indexOf1 (k := 1) rfl) rfl ?_
  refine v_iconst (v := 0) (am_Dk d_jS_indexOf1 (k := 2) rfl) (by decide) ?_
  refine v_callV (rest := []) (As := [.int x, .int 0]) (mc' := 0) (ms' := 0) (am_Dk d_jS_indexOf1 (k := 3) rfl) c_jS_633 (Or.inr hS.1) (t_jS_indexOf2 G (d := 2) (by omega) hS hx hw0) (by omega) (by omega) (by omega) (by simp [Value.category]) rfl (fun v1 M2 n3 h4 => ?_) (fun _ _ _ h4 => ?_)
  rotate_left
  · exact absurd h4.1 (by simp)
  obtain ⟨h4, e5, e6⟩ := h4
  replace e5 := e5.symm
  replace e6 := e6.symm
  subst e5
  subst e6
  cases h4
  show am_V G _ _ _ _ _ 6 [(0, .ref S), (1, .int x)] [.int (ixF w x w.length 0)] M nx 0 0
  exact v_ireturn (am_Dk d_jS_indexOf1 (k := 4) rfl) rfl rfl (by omega) (by omega) ⟨rfl, rfl, rfl⟩
theorem ix_sy : ∀ k, k < 128 → (decide (¬ (ixF [43, 45, 42, 47, 92, 94, 60, 62, 61, 126, 58, 46, 63, 64, 35, 38, 36] (nI k) 17 0) < 0) = syB (nI k)) := by decide +kernel
theorem i32_nI {x : Int32} (h : 0 ≤ x.toInt) : x = nI x.toInt.toNat := by
  apply Int32.toInt_inj.mp
  have := Int32.toInt_lt x
  rw [nI_toInt (by omega)]
  omega
theorem sy_neg {x : Int32} (h : x.toInt ≤ 0 ∨ 127 < x.toInt) : syB x = false := by
  rw [syB]
  exact decide_eq_false (by omega)
set_option maxRecDepth 20000 in
theorem t_MR_symbol (G : am_G) {d nx : Nat} (hd : 4 ≤ d) {M : am_M} {x : Int32} (hx : x.toInt ≤ 127) : am_Tr G m_MR_symbol d 0 0 [.int x] M nx (fun r M1 nx1 => r = .inl (some (.int (bi (syB x)))) ∧ M1 = M ∧ nx1 = nx) := by
  refine am_TrOf (by decide) (Nat.le_of_ble_eq_true rfl) ?_
  show am_V G _ _ _ _ _ 0 [(0, .int x)] [] M nx 0 0
  refine v_iload_n (am_Dk d_MR_symbol (k := 0) rfl) rfl ?_
  refine v_if_le (tgt := 17) (am_Dk d_MR_symbol (k := 1) rfl) (by decide) (fun c1 => ?_) (fun c1 => ?_)
  · have hZ : x.toInt ≤ 0 := Int32.le_iff_toInt_le.mp c1
    refine v_iconst (v := 0) (am_Dk d_MR_symbol (k := 8) rfl) (by decide) ?_
    exact v_ireturn (am_Dk d_MR_symbol (k := 9) rfl) rfl rfl (by omega) (by omega) ⟨by rw [show syB x = false from by first | exact sy_neg (Or.inl hZ) | (rw [i32_nI (x := x) (by omega), ← ix_sy _ (by omega), ← i32_nI (x := x) (by omega)]; exact decide_eq_false (fun z => z hI))]; rfl, rfl, rfl⟩
  · have hP : 0 < x.toInt := by have h9 : ¬ x.toInt ≤ 0 := fun z => c1 (Int32.le_iff_toInt_le.mpr z); omega
    refine v_ldcS (i := 161) (tx := "+-*/\\^<>=~:.?@#&$") (am_Dk d_MR_symbol (k := 2) rfl) (by decide +kernel) ?_
    refine v_iload_n (am_Dk d_MR_symbol (k := 3) rfl) rfl ?_
    refine v_callV (rest := []) (As := [.int x]) (mc' := 0) (ms' := 0) (am_Dk d_MR_symbol (k := 4) rfl) c_MR_132 (Or.inr (by decide +kernel)) (t_jS_indexOf1 G (d := 3) (by omega) sy_S ⟨by omega, by omega⟩ (by decide)) (by omega) (by omega) (by omega) (by simp [Value.category]) rfl (fun v2 M3 n4 h5 => ?_) (fun _ _ _ h5 => ?_)
    rotate_left
    · exact absurd h5.1 (by simp)
    obtain ⟨h5, e6, e7⟩ := h5
    replace e6 := e6.symm
    replace e7 := e7.symm
    subst e6
    subst e7
    cases h5
    show am_V G _ _ _ _ _ 10 [(0, .int x)] [.int (ixF [43, 45, 42, 47, 92, 94, 60, 62, 61, 126, 58, 46, 63, 64, 35, 38, 36] x 17 0)] M nx 0 0
    refine v_if_lt (tgt := 17) (am_Dk d_MR_symbol (k := 5) rfl) (by decide) (fun c8 => ?_) (fun c8 => ?_)
    · have hI := c8
      refine v_iconst (v := 0) (am_Dk d_MR_symbol (k := 8) rfl) (by decide) ?_
      exact v_ireturn (am_Dk d_MR_symbol (k := 9) rfl) rfl rfl (by omega) (by omega) ⟨by rw [show syB x = false from by first | exact sy_neg (Or.inl hZ) | (rw [i32_nI (x := x) (by omega), ← ix_sy _ (by omega), ← i32_nI (x := x) (by omega)]; exact decide_eq_false (fun z => z hI))]; rfl, rfl, rfl⟩
    · have hI := c8
      refine v_iconst (v := 1) (am_Dk d_MR_symbol (k := 6) rfl) (by decide) ?_
      refine v_goto (tgt := 18) (am_Dk d_MR_symbol (k := 7) rfl) (by decide) ?_
      exact v_ireturn (am_Dk d_MR_symbol (k := 9) rfl) rfl rfl (by omega) (by omega) ⟨by rw [show syB x = true from by rw [i32_nI (x := x) (by omega), ← ix_sy _ (by omega), ← i32_nI (x := x) (by omega)]; exact decide_eq_true hI]; rfl, rfl, rfl⟩
theorem lk_le {f : Nat → Int32} (hb : tbB f) (n i : Nat) : (lk f n i).toInt ≤ 127 := by
  rw [lk]
  split
  · exact (hb i).2
  · decide
set_option maxRecDepth 20000 in
theorem l_MR_digits1 (G : am_G) {d nx : Nat} (hd : 0 < d) {M : am_M} {n : Nat} {at9 be tk op le tp pl vd kn rk : Int32} {nu : Int64} {p : Nat} (hr : M 1225 = some (.inr (12, [.ref 1226, .ref 1227, .ref 1228, .ref 1213, .ref 1220, .ref 1212, .int (nI n), .int (nI p), .int be, .int tk, .int op, .long nu, .ref 1229, .int le, .ref 1230, .int tp, .int pl, .ref 1231, .int vd, .int kn, .int rk, .ref 1232]))) {f : Nat → Int32} (h2 : M 1212 = some (.inl (0, 4096, .inl f))) (hn : n ≤ 4096) (hb : tbB f) (hp : p ≤ n) {I : Nat} {V : Int64} : ∀ m i u v, i + m = n → dgI u v → dvF (tb f n) n m i v = (I, V) → am_V G m_MR_digits d 0 0 (fun r M1 nx1 => ∃ u, dgI u V ∧ r = .inl none ∧ M1 = am_up M 1225 (.inr (12, [.ref 1226, .ref 1227, .ref 1228, .ref 1213, .ref 1220, .ref 1212, .int (nI n), .int (nI p), .int (nI I), .int (if u < 9007199254740992 then 2 else 12), .int op, .long u, .ref 1229, .int le, .ref 1230, .int tp, .int pl, .ref 1231, .int vd, .int kn, .int rk, .ref 1232])) ∧ nx1 = nx) 10 [(1, .int (nI i)), (0, .ref 1225)] [] (am_up M 1225 (.inr (12, [.ref 1226, .ref 1227, .ref 1228, .ref 1213, .ref 1220, .ref 1212, .int (nI n), .int (nI p), .int be, .int tk, .int op, .long u, .ref 1229, .int le, .ref 1230, .int tp, .int pl, .ref 1231, .int vd, .int kn, .int rk, .ref 1232]))) nx 0 0 := by
  intro m
  induction m with
  | zero =>
    intro i u v him hu hv
    rw [dvF] at hv
    have hI : I = i := (congrArg Prod.fst hv).symm
    have hV : V = v := (congrArg Prod.snd hv).symm
    rw [hI, hV]
    refine v_aload_n (am_Dk d_MR_digits (k := 6) rfl) rfl ?_
    refine v_iload_n (am_Dk d_MR_digits (k := 7) rfl) rfl ?_
    have m1 : (am_up M 1225 (.inr (12, [.ref 1226, .ref 1227, .ref 1228, .ref 1213, .ref 1220, .ref 1212, .int (nI n), .int (nI p), .int be, .int tk, .int op, .long u, .ref 1229, .int le, .ref 1230, .int tp, .int pl, .ref 1231, .int vd, .int kn, .int rk, .ref 1232]))) 1225 = some (.inr (12, [.ref 1226, .ref 1227, .ref 1228, .ref 1213, .ref 1220, .ref 1212, .int (nI n), .int (nI p), .int be, .int tk, .int op, .long u, .ref 1229, .int le, .ref 1230, .int tp, .int pl, .ref 1231, .int vd, .int kn, .int rk, .ref 1232])) := am_up_eq _ _ _
    have m2 : (am_up M 1225 (.inr (12, [.ref 1226, .ref 1227, .ref 1228, .ref 1213, .ref 1220, .ref 1212, .int (nI n), .int (nI p), .int be, .int tk, .int op, .long u, .ref 1229, .int le, .ref 1230, .int tp, .int pl, .ref 1231, .int vd, .int kn, .int rk, .ref 1232]))) 1212 = some (.inl (0, 4096, .inl f)) := (am_up_ne (show 1212 ≠ 1225 from by decide)).trans (h2)
    refine v_callV (rest := []) (As := [.int (nI i)]) (mc' := 0) (ms' := 0) (am_Dk d_MR_digits (k := 8) rfl) c_MR_148 (Or.inl ⟨_, _, _, _, _, m1, cq_ok12⟩) (t_MR_look G (d := 0) (i := i) (by omega) m1 m2 hn (by omega)) (by omega) (by omega) (by omega) (by simp [Value.category]) rfl (fun v3 M4 n5 h6 => ?_) (fun _ _ _ h6 => ?_)
    rotate_left
    · exact absurd h6.1 (by simp)
    obtain ⟨h6, e7, e8⟩ := h6
    replace e7 := e7.symm
    replace e8 := e8.symm
    subst e7
    subst e8
    cases h6
    show am_V G _ _ _ _ _ 15 [(1, .int (nI i)), (0, .ref 1225)] [.int (lk f n i)] (am_up M 1225 (.inr (12, [.ref 1226, .ref 1227, .ref 1228, .ref 1213, .ref 1220, .ref 1212, .int (nI n), .int (nI p), .int be, .int tk, .int op, .long u, .ref 1229, .int le, .ref 1230, .int tp, .int pl, .ref 1231, .int vd, .int kn, .int rk, .ref 1232]))) nx 0 0
    refine v_callS (rest := []) (As := [.int (lk f n i)]) (mc' := 0) (ms' := 0) (am_Dk d_MR_digits (k := 9) rfl) c_MR_151 (t_MR_digit G (d := 0)) (by omega) (by omega) (by omega) (by simp [Value.category]) rfl (fun v9 M10 n11 h12 => ?_) (fun _ _ _ h12 => ?_)
    rotate_left
    · exact absurd h12.1 (by simp)
    obtain ⟨h12, e13, e14⟩ := h12
    replace e13 := e13.symm
    replace e14 := e14.symm
    subst e13
    subst e14
    cases h12
    show am_V G _ _ _ _ _ 18 [(1, .int (nI i)), (0, .ref 1225)] [.int (bi (dgB (lk f n i)))] (am_up M 1225 (.inr (12, [.ref 1226, .ref 1227, .ref 1228, .ref 1213, .ref 1220, .ref 1212, .int (nI n), .int (nI p), .int be, .int tk, .int op, .long u, .ref 1229, .int le, .ref 1230, .int tp, .int pl, .ref 1231, .int vd, .int kn, .int rk, .ref 1232]))) nx 0 0
    refine v_if_eq (tgt := 62) (am_Dk d_MR_digits (k := 10) rfl) (by decide) (fun c15 => ?_) (fun c15 => ?_)
    · have Nc15 := bi0.mp c15
      refine v_aload_n (am_Dk d_MR_digits (k := 32) rfl) rfl ?_
      refine v_aload_n (am_Dk d_MR_digits (k := 33) rfl) rfl ?_
      refine v_get (am_Dk d_MR_digits (k := 34) rfl) f_MR_174 m1 rfl ?_
      refine v_ldc2 (am_Dk d_MR_digits (k := 35) rfl) k_MR_178 ?_
      refine v_lcmp (am_Dk d_MR_digits (k := 36) rfl) ?_
      refine v_if_ge (tgt := 78) (am_Dk d_MR_digits (k := 37) rfl) (by decide) (fun c16 => ?_) (fun c16 => ?_)
      · have hL : ¬ u < 9007199254740992 := fun z => (Int64.not_lt.mpr ((lg_cmp_ge _ _).mp c16)) z
        refine v_bipush (v := 12) (am_Dk d_MR_digits (k := 40) rfl) (by decide) ?_
        refine v_iload_n (am_Dk d_MR_digits (k := 41) rfl) rfl ?_
        refine v_callV (rest := []) (As := [.int 12, .int (nI i)]) (mc' := 0) (ms' := 0) (am_Dk d_MR_digits (k := 42) rfl) c_MR_158 (Or.inl ⟨_, _, _, _, _, m1, cq_ok12⟩) (t_MR_take G (d := 0) (by omega) m1) (by omega) (by omega) (by omega) (by simp [Value.category]) rfl (fun v17 M18 n19 h20 => ?_) (fun _ _ _ h20 => ?_)
        rotate_left
        · exact absurd h20.1 (by simp)
        obtain ⟨h20, e21, e22⟩ := h20
        replace e21 := e21.symm
        replace e22 := e22.symm
        subst e21
        subst e22
        cases h20
        rw [am_uu0 (a := 1225)]
        show am_V G _ _ _ _ _ 84 [(1, .int (nI i)), (0, .ref 1225)] [] (am_up M 1225 (.inr (12, [.ref 1226, .ref 1227, .ref 1228, .ref 1213, .ref 1220, .ref 1212, .int (nI n), .int (nI p), .int (nI i), .int 12, .int op, .long u, .ref 1229, .int le, .ref 1230, .int tp, .int pl, .ref 1231, .int vd, .int kn, .int rk, .ref 1232]))) nx 0 0
        exact v_return (am_Dk d_MR_digits (k := 43) rfl) rfl (by omega) (by omega) ⟨u, hu, rfl, by rw [if_neg hL], rfl⟩
      · have hL : u < 9007199254740992 := Int64.not_le.mp (fun z => c16 ((lg_cmp_ge _ _).mpr z))
        refine v_iconst (v := 2) (am_Dk d_MR_digits (k := 38) rfl) (by decide) ?_
        refine v_goto (tgt := 80) (am_Dk d_MR_digits (k := 39) rfl) (by decide) ?_
        refine v_iload_n (am_Dk d_MR_digits (k := 41) rfl) rfl ?_
        refine v_callV (rest := []) (As := [.int 2, .int (nI i)]) (mc' := 0) (ms' := 0) (am_Dk d_MR_digits (k := 42) rfl) c_MR_158 (Or.inl ⟨_, _, _, _, _, m1, cq_ok12⟩) (t_MR_take G (d := 0) (by omega) m1) (by omega) (by omega) (by omega) (by simp [Value.category]) rfl (fun v23 M24 n25 h26 => ?_) (fun _ _ _ h26 => ?_)
        rotate_left
        · exact absurd h26.1 (by simp)
        obtain ⟨h26, e27, e28⟩ := h26
        replace e27 := e27.symm
        replace e28 := e28.symm
        subst e27
        subst e28
        cases h26
        rw [am_uu0 (a := 1225)]
        show am_V G _ _ _ _ _ 84 [(1, .int (nI i)), (0, .ref 1225)] [] (am_up M 1225 (.inr (12, [.ref 1226, .ref 1227, .ref 1228, .ref 1213, .ref 1220, .ref 1212, .int (nI n), .int (nI p), .int (nI i), .int 2, .int op, .long u, .ref 1229, .int le, .ref 1230, .int tp, .int pl, .ref 1231, .int vd, .int kn, .int rk, .ref 1232]))) nx 0 0
        exact v_return (am_Dk d_MR_digits (k := 43) rfl) rfl (by omega) (by omega) ⟨u, hu, rfl, by rw [if_pos hL], rfl⟩
    · exact absurd (bi1 c15) (by rw [lk, if_neg (by omega)]; decide)
  | succ m ih =>
    intro i u v him hu hv
    rw [dvF] at hv
    have hdg := lk_dg hb n i
    have hin : i < n := by omega
    have hlf : lk f n i = f i := by rw [lk, if_pos hin]
    refine v_aload_n (am_Dk d_MR_digits (k := 6) rfl) rfl ?_
    refine v_iload_n (am_Dk d_MR_digits (k := 7) rfl) rfl ?_
    have m1 : (am_up M 1225 (.inr (12, [.ref 1226, .ref 1227, .ref 1228, .ref 1213, .ref 1220, .ref 1212, .int (nI n), .int (nI p), .int be, .int tk, .int op, .long u, .ref 1229, .int le, .ref 1230, .int tp, .int pl, .ref 1231, .int vd, .int kn, .int rk, .ref 1232]))) 1225 = some (.inr (12, [.ref 1226, .ref 1227, .ref 1228, .ref 1213, .ref 1220, .ref 1212, .int (nI n), .int (nI p), .int be, .int tk, .int op, .long u, .ref 1229, .int le, .ref 1230, .int tp, .int pl, .ref 1231, .int vd, .int kn, .int rk, .ref 1232])) := am_up_eq _ _ _
    have m2 : (am_up M 1225 (.inr (12, [.ref 1226, .ref 1227, .ref 1228, .ref 1213, .ref 1220, .ref 1212, .int (nI n), .int (nI p), .int be, .int tk, .int op, .long u, .ref 1229, .int le, .ref 1230, .int tp, .int pl, .ref 1231, .int vd, .int kn, .int rk, .ref 1232]))) 1212 = some (.inl (0, 4096, .inl f)) := (am_up_ne (show 1212 ≠ 1225 from by decide)).trans (h2)
    refine v_callV (rest := []) (As := [.int (nI i)]) (mc' := 0) (ms' := 0) (am_Dk d_MR_digits (k := 8) rfl) c_MR_148 (Or.inl ⟨_, _, _, _, _, m1, cq_ok12⟩) (t_MR_look G (d := 0) (i := i) (by omega) m1 m2 hn (by omega)) (by omega) (by omega) (by omega) (by simp [Value.category]) rfl (fun v3 M4 n5 h6 => ?_) (fun _ _ _ h6 => ?_)
    rotate_left
    · exact absurd h6.1 (by simp)
    obtain ⟨h6, e7, e8⟩ := h6
    replace e7 := e7.symm
    replace e8 := e8.symm
    subst e7
    subst e8
    cases h6
    show am_V G _ _ _ _ _ 15 [(1, .int (nI i)), (0, .ref 1225)] [.int (lk f n i)] (am_up M 1225 (.inr (12, [.ref 1226, .ref 1227, .ref 1228, .ref 1213, .ref 1220, .ref 1212, .int (nI n), .int (nI p), .int be, .int tk, .int op, .long u, .ref 1229, .int le, .ref 1230, .int tp, .int pl, .ref 1231, .int vd, .int kn, .int rk, .ref 1232]))) nx 0 0
    refine v_callS (rest := []) (As := [.int (lk f n i)]) (mc' := 0) (ms' := 0) (am_Dk d_MR_digits (k := 9) rfl) c_MR_151 (t_MR_digit G (d := 0)) (by omega) (by omega) (by omega) (by simp [Value.category]) rfl (fun v9 M10 n11 h12 => ?_) (fun _ _ _ h12 => ?_)
    rotate_left
    · exact absurd h12.1 (by simp)
    obtain ⟨h12, e13, e14⟩ := h12
    replace e13 := e13.symm
    replace e14 := e14.symm
    subst e13
    subst e14
    cases h12
    show am_V G _ _ _ _ _ 18 [(1, .int (nI i)), (0, .ref 1225)] [.int (bi (dgB (lk f n i)))] (am_up M 1225 (.inr (12, [.ref 1226, .ref 1227, .ref 1228, .ref 1213, .ref 1220, .ref 1212, .int (nI n), .int (nI p), .int be, .int tk, .int op, .long u, .ref 1229, .int le, .ref 1230, .int tp, .int pl, .ref 1231, .int vd, .int kn, .int rk, .ref 1232]))) nx 0 0
    refine v_if_eq (tgt := 62) (am_Dk d_MR_digits (k := 10) rfl) (by decide) (fun c15 => ?_) (fun c15 => ?_)
    · have hF := bi0.mp c15
      rw [hdg] at hF
      rw [if_neg (ne_true_of_eq_false hF)] at hv
      have hI : I = i := (congrArg Prod.fst hv).symm
      have hV : V = v := (congrArg Prod.snd hv).symm
      rw [hI, hV]
      refine v_aload_n (am_Dk d_MR_digits (k := 32) rfl) rfl ?_
      refine v_aload_n (am_Dk d_MR_digits (k := 33) rfl) rfl ?_
      refine v_get (am_Dk d_MR_digits (k := 34) rfl) f_MR_174 m1 rfl ?_
      refine v_ldc2 (am_Dk d_MR_digits (k := 35) rfl) k_MR_178 ?_
      refine v_lcmp (am_Dk d_MR_digits (k := 36) rfl) ?_
      refine v_if_ge (tgt := 78) (am_Dk d_MR_digits (k := 37) rfl) (by decide) (fun c16 => ?_) (fun c16 => ?_)
      · have hL : ¬ u < 9007199254740992 := fun z => (Int64.not_lt.mpr ((lg_cmp_ge _ _).mp c16)) z
        refine v_bipush (v := 12) (am_Dk d_MR_digits (k := 40) rfl) (by decide) ?_
        refine v_iload_n (am_Dk d_MR_digits (k := 41) rfl) rfl ?_
        refine v_callV (rest := []) (As := [.int 12, .int (nI i)]) (mc' := 0) (ms' := 0) (am_Dk d_MR_digits (k := 42) rfl) c_MR_158 (Or.inl ⟨_, _, _, _, _, m1, cq_ok12⟩) (t_MR_take G (d := 0) (by omega) m1) (by omega) (by omega) (by omega) (by simp [Value.category]) rfl (fun v17 M18 n19 h20 => ?_) (fun _ _ _ h20 => ?_)
        rotate_left
        · exact absurd h20.1 (by simp)
        obtain ⟨h20, e21, e22⟩ := h20
        replace e21 := e21.symm
        replace e22 := e22.symm
        subst e21
        subst e22
        cases h20
        rw [am_uu0 (a := 1225)]
        show am_V G _ _ _ _ _ 84 [(1, .int (nI i)), (0, .ref 1225)] [] (am_up M 1225 (.inr (12, [.ref 1226, .ref 1227, .ref 1228, .ref 1213, .ref 1220, .ref 1212, .int (nI n), .int (nI p), .int (nI i), .int 12, .int op, .long u, .ref 1229, .int le, .ref 1230, .int tp, .int pl, .ref 1231, .int vd, .int kn, .int rk, .ref 1232]))) nx 0 0
        exact v_return (am_Dk d_MR_digits (k := 43) rfl) rfl (by omega) (by omega) ⟨u, hu, rfl, by rw [if_neg hL], rfl⟩
      · have hL : u < 9007199254740992 := Int64.not_le.mp (fun z => c16 ((lg_cmp_ge _ _).mpr z))
        refine v_iconst (v := 2) (am_Dk d_MR_digits (k := 38) rfl) (by decide) ?_
        refine v_goto (tgt := 80) (am_Dk d_MR_digits (k := 39) rfl) (by decide) ?_
        refine v_iload_n (am_Dk d_MR_digits (k := 41) rfl) rfl ?_
        refine v_callV (rest := []) (As := [.int 2, .int (nI i)]) (mc' := 0) (ms' := 0) (am_Dk d_MR_digits (k := 42) rfl) c_MR_158 (Or.inl ⟨_, _, _, _, _, m1, cq_ok12⟩) (t_MR_take G (d := 0) (by omega) m1) (by omega) (by omega) (by omega) (by simp [Value.category]) rfl (fun v23 M24 n25 h26 => ?_) (fun _ _ _ h26 => ?_)
        rotate_left
        · exact absurd h26.1 (by simp)
        obtain ⟨h26, e27, e28⟩ := h26
        replace e27 := e27.symm
        replace e28 := e28.symm
        subst e27
        subst e28
        cases h26
        rw [am_uu0 (a := 1225)]
        show am_V G _ _ _ _ _ 84 [(1, .int (nI i)), (0, .ref 1225)] [] (am_up M 1225 (.inr (12, [.ref 1226, .ref 1227, .ref 1228, .ref 1213, .ref 1220, .ref 1212, .int (nI n), .int (nI p), .int (nI i), .int 2, .int op, .long u, .ref 1229, .int le, .ref 1230, .int tp, .int pl, .ref 1231, .int vd, .int kn, .int rk, .ref 1232]))) nx 0 0
        exact v_return (am_Dk d_MR_digits (k := 43) rfl) rfl (by omega) (by omega) ⟨u, hu, rfl, by rw [if_pos hL], rfl⟩
    · have hT := bi1 c15
      have hdc := of_decide_eq_true hT
      rw [hlf] at hdc
      rw [hdg] at hT
      have htc := of_decide_eq_true hT
      have hft : f i = tb f n i := lk_f hb hin (by omega)
      refine v_aload_n (am_Dk d_MR_digits (k := 11) rfl) rfl ?_
      refine v_get (am_Dk d_MR_digits (k := 12) rfl) f_MR_174 m1 rfl ?_
      refine v_ldc2 (am_Dk d_MR_digits (k := 13) rfl) k_MR_178 ?_
      refine v_lcmp (am_Dk d_MR_digits (k := 14) rfl) ?_
      refine v_if_ge (tgt := 56) (am_Dk d_MR_digits (k := 15) rfl) (by decide) (fun c29 => ?_) (fun c29 => ?_)
      · have hL2 : ¬ u < 9007199254740992 := fun z => (Int64.not_lt.mpr ((lg_cmp_ge _ _).mp c29)) z
        refine v_iinc (v := nI (i + 1)) (L1 := [(1, .int (nI (i + 1))), (0, .ref 1225)]) (am_Dk d_MR_digits (k := 30) rfl) rfl (nI_1 _) (by decide) rfl ?_
        refine v_goto (tgt := 10) (am_Dk d_MR_digits (k := 31) rfl) (by decide) ?_
        have dgs := dg_step (c := f i) hdc hu
        rw [if_neg hL2] at dgs
        exact ih (i + 1) _ _ (by omega) dgs (by rw [if_pos hT, ← hft] at hv; exact hv)
      · have hL2 : u < 9007199254740992 := Int64.not_le.mp (fun z => c29 ((lg_cmp_ge _ _).mpr z))
        refine v_aload_n (am_Dk d_MR_digits (k := 16) rfl) rfl ?_
        refine v_ldc2 (am_Dk d_MR_digits (k := 17) rfl) k_MR_180 ?_
        refine v_aload_n (am_Dk d_MR_digits (k := 18) rfl) rfl ?_
        refine v_get (am_Dk d_MR_digits (k := 19) rfl) f_MR_174 m1 rfl ?_
        refine v_lmul (am_Dk d_MR_digits (k := 20) rfl) ?_
        refine v_aload_n (am_Dk d_MR_digits (k := 21) rfl) rfl ?_
        refine v_get (am_Dk d_MR_digits (k := 22) rfl) f_MR_89 m1 rfl ?_
        refine v_iload_n (am_Dk d_MR_digits (k := 23) rfl) rfl ?_
        refine v_bald (am_Dk d_MR_digits (k := 24) rfl) m2 rfl (vp_in4 (by omega)) ?_
        rw [nI_clamp (n := i) (by omega)]
        refine v_i2l (am_Dk d_MR_digits (k := 25) rfl) rfl ?_
        refine v_ladd (am_Dk d_MR_digits (k := 26) rfl) ?_
        refine v_ldc2 (am_Dk d_MR_digits (k := 27) rfl) k_MR_182 ?_
        refine v_lsub (am_Dk d_MR_digits (k := 28) rfl) ?_
        refine v_put (am_Dk d_MR_digits (k := 29) rfl) f_MR_174 m1 (Nat.le_of_ble_eq_true rfl) rfl rfl ?_
        rw [am_uu0 (a := 1225)]
        refine v_iinc (v := nI (i + 1)) (L1 := [(1, .int (nI (i + 1))), (0, .ref 1225)]) (am_Dk d_MR_digits (k := 30) rfl) rfl (nI_1 _) (by decide) rfl ?_
        refine v_goto (tgt := 10) (am_Dk d_MR_digits (k := 31) rfl) (by decide) ?_
        have dgs := dg_step (c := f i) hdc hu
        rw [if_pos hL2] at dgs
        exact ih (i + 1) _ _ (by omega) dgs (by rw [if_pos hT, ← hft] at hv; exact hv)
set_option maxRecDepth 20000 in
theorem t_MR_digits (G : am_G) {d nx : Nat} (hd : 1 ≤ d) {M : am_M} {n : Nat} {at9 be tk op le tp pl vd kn rk : Int32} {nu : Int64} {p : Nat} (hr : M 1225 = some (.inr (12, [.ref 1226, .ref 1227, .ref 1228, .ref 1213, .ref 1220, .ref 1212, .int (nI n), .int (nI p), .int be, .int tk, .int op, .long nu, .ref 1229, .int le, .ref 1230, .int tp, .int pl, .ref 1231, .int vd, .int kn, .int rk, .ref 1232]))) {f : Nat → Int32} (h2 : M 1212 = some (.inl (0, 4096, .inl f))) (hn : n ≤ 4096) (hb : tbB f) (hp : p ≤ n) : am_Tr G m_MR_digits d 0 0 [.ref 1225] M nx (fun r M1 nx1 => ∃ u, dgI u (dv (tb f n) n p).2 ∧ r = .inl none ∧ M1 = am_up M 1225 (.inr (12, [.ref 1226, .ref 1227, .ref 1228, .ref 1213, .ref 1220, .ref 1212, .int (nI n), .int (nI p), .int (nI (dv (tb f n) n p).1), .int (if u < 9007199254740992 then 2 else 12), .int op, .long u, .ref 1229, .int le, .ref 1230, .int tp, .int pl, .ref 1231, .int vd, .int kn, .int rk, .ref 1232])) ∧ nx1 = nx) := by
  refine am_TrOf (by decide) (Nat.le_of_ble_eq_true rfl) ?_
  show am_V G _ _ _ _ _ 0 [(0, .ref 1225)] [] M nx 0 0
  refine v_aload_n (am_Dk d_MR_digits (k := 0) rfl) rfl ?_
  refine v_lconst (v := 0) (am_Dk d_MR_digits (k := 1) rfl) (by decide) ?_
  refine v_put (am_Dk d_MR_digits (k := 2) rfl) f_MR_174 hr (Nat.le_of_ble_eq_true rfl) rfl rfl ?_
  refine v_aload_n (am_Dk d_MR_digits (k := 3) rfl) rfl ?_
  have m1 : (am_up M 1225 (.inr (12, [.ref 1226, .ref 1227, .ref 1228, .ref 1213, .ref 1220, .ref 1212, .int (nI n), .int (nI p), .int be, .int tk, .int op, .long 0, .ref 1229, .int le, .ref 1230, .int tp, .int pl, .ref 1231, .int vd, .int kn, .int rk, .ref 1232]))) 1225 = some (.inr (12, [.ref 1226, .ref 1227, .ref 1228, .ref 1213, .ref 1220, .ref 1212, .int (nI n), .int (nI p), .int be, .int tk, .int op, .long 0, .ref 1229, .int le, .ref 1230, .int tp, .int pl, .ref 1231, .int vd, .int kn, .int rk, .ref 1232])) := am_up_eq _ _ _
  refine v_get (am_Dk d_MR_digits (k := 4) rfl) f_MR_116 m1 rfl ?_
  refine v_istore_n (L1 := [(1, .int (nI p)), (0, .ref 1225)]) (am_Dk d_MR_digits (k := 5) rfl) (by decide) rfl ?_
  exact l_MR_digits1 G (at9 := 0) (by omega) hr h2 hn hb hp (n - p) p 0 0 (by omega) (Or.inl ⟨by decide, by decide, rfl⟩) rfl
theorem lk_io {f : Nat → Int32} (hb : tbB f) {n i : Nat} : (¬ lk f n i < 32 ∧ lk f n i ≤ 126 → ¬ tb f n i = 39 → inq (tb f n) i = true ∧ lk f n i = tb f n i) ∧ (lk f n i < 32 ∨ 126 < lk f n i → ¬ inq (tb f n) i = true) := by
  have z32 : (32 : Int32).toInt = 32 := by decide
  have z126 : (126 : Int32).toInt = 126 := by decide
  have z39 : (39 : Int32).toInt = 39 := by decide
  rw [Int32.lt_iff_toInt_lt, Int32.le_iff_toInt_le, Int32.lt_iff_toInt_lt, z32, z126]
  rcases lk_tb hb n i with ⟨h, _⟩ | ⟨h1, h2, _⟩
  · rw [h]
    refine ⟨fun z hn => ⟨?_, rfl⟩, fun z y => ?_⟩
    · rw [inq, if_neg hn]
      exact decide_eq_true ⟨by rw [Int32.lt_iff_toInt_lt, z32]; omega, by rw [Int32.lt_iff_toInt_lt, z126]; omega⟩
    · rw [inq] at y
      split at y
      · rename_i h9
        rw [h9, z39] at z
        omega
      · have y := of_decide_eq_true y
        rw [Int32.lt_iff_toInt_lt, Int32.lt_iff_toInt_lt, z32, z126] at y
        omega
  · refine ⟨fun z => absurd z (by omega), fun _ y => ?_⟩
    rw [inq] at y
    split at y
    · rename_i h9
      rw [h9, z39] at h2
      omega
    · have y := of_decide_eq_true y
      rw [Int32.lt_iff_toInt_lt, Int32.lt_iff_toInt_lt, z32, z126] at y
      omega
set_option maxRecDepth 20000 in
theorem l_MR_quoted1 (G : am_G) {d nx : Nat} (hd : 0 < d) {M : am_M} {n : Nat} {at9 be tk op le tp pl vd kn rk : Int32} {nu : Int64} {p : Nat} (hr : M 1225 = some (.inr (12, [.ref 1226, .ref 1227, .ref 1228, .ref 1213, .ref 1220, .ref 1212, .int (nI n), .int (nI p), .int be, .int tk, .int op, .long nu, .ref 1229, .int 0, .ref 1230, .int tp, .int pl, .ref 1231, .int vd, .int kn, .int rk, .ref 1232]))) {f : Nat → Int32} (h2 : M 1212 = some (.inl (0, 4096, .inl f))) (hn : n ≤ 4096) (hb : tbB f) (hp : p < n) {g0 : Nat → Int32} (hw : M 1229 = some (.inl (0, 4096, .inl g0))) (hg0 : tbB g0) {E : Nat} : ∀ m i l g (L : List (Nat × Value)), n ≤ i + m → i ≤ n → wqI f n p i l g → tbB g → qdF (tb f n) n m i = E → (1, .int (nI i)) ∈ L → (0, .ref 1225) ∈ L → am_V G m_MR_quoted d 0 0 (fun r M1 nx1 => (tb f n E = 39 ∧ ∃ l g, wqI f n p E l g ∧ tbB g ∧ l ≤ 4096 ∧ r = .inl none ∧ M1 = am_up (am_up M 1229 (.inl (0, 4096, .inl g))) 1225 (.inr (12, [.ref 1226, .ref 1227, .ref 1228, .ref 1213, .ref 1220, .ref 1212, .int (nI n), .int (nI p), .int (nI (E + 1)), .int 3, .int op, .long nu, .ref 1229, .int (nI l), .ref 1230, .int tp, .int pl, .ref 1231, .int vd, .int kn, .int rk, .ref 1232])) ∧ nx1 = nx) ∨ (¬ tb f n E = 39 ∧ ∃ l g, tbB g ∧ l ≤ 4096 ∧ r = .inl none ∧ M1 = am_up (am_up M 1229 (.inl (0, 4096, .inl g))) 1225 (.inr (12, [.ref 1226, .ref 1227, .ref 1228, .ref 1213, .ref 1220, .ref 1212, .int (nI n), .int (nI p), .int (nI (p + 1)), .int 12, .int op, .long nu, .ref 1229, .int (nI l), .ref 1230, .int tp, .int pl, .ref 1231, .int vd, .int kn, .int rk, .ref 1232])) ∧ nx1 = nx)) 7 L [] (am_up (am_up M 1229 (.inl (0, 4096, .inl g))) 1225 (.inr (12, [.ref 1226, .ref 1227, .ref 1228, .ref 1213, .ref 1220, .ref 1212, .int (nI n), .int (nI p), .int be, .int tk, .int op, .long nu, .ref 1229, .int (nI l), .ref 1230, .int tp, .int pl, .ref 1231, .int vd, .int kn, .int rk, .ref 1232]))) nx 0 0 := by
  intro m
  induction m with
  | zero =>
    intro i l g L hm hi hwq hg hq hL1 hL0
    rw [qdF] at hq
    refine v_drop (L := [(1, .int (nI i)), (0, .ref 1225)]) ?_ (fun q hq => by simp only [List.mem_cons, List.not_mem_nil, or_false] at hq; rcases hq with h | h <;> (subst h; assumption))
    have hlk : lk f n i = -1 := by rw [lk, if_neg (by omega)]
    have hE39 : ¬ tb f n E = 39 := by rw [← hq, tb, if_neg (by omega)]; decide
    refine v_aload_n (am_Dk d_MR_quoted (k := 5) rfl) rfl ?_
    refine v_iload_n (am_Dk d_MR_quoted (k := 6) rfl) rfl ?_
    have m1 : (am_up (am_up M 1229 (.inl (0, 4096, .inl g))) 1225 (.inr (12, [.ref 1226, .ref 1227, .ref 1228, .ref 1213, .ref 1220, .ref 1212, .int (nI n), .int (nI p), .int be, .int tk, .int op, .long nu, .ref 1229, .int (nI l), .ref 1230, .int tp, .int pl, .ref 1231, .int vd, .int kn, .int rk, .ref 1232]))) 1225 = some (.inr (12, [.ref 1226, .ref 1227, .ref 1228, .ref 1213, .ref 1220, .ref 1212, .int (nI n), .int (nI p), .int be, .int tk, .int op, .long nu, .ref 1229, .int (nI l), .ref 1230, .int tp, .int pl, .ref 1231, .int vd, .int kn, .int rk, .ref 1232])) := am_up_eq _ _ _
    have m2 : (am_up (am_up M 1229 (.inl (0, 4096, .inl g))) 1225 (.inr (12, [.ref 1226, .ref 1227, .ref 1228, .ref 1213, .ref 1220, .ref 1212, .int (nI n), .int (nI p), .int be, .int tk, .int op, .long nu, .ref 1229, .int (nI l), .ref 1230, .int tp, .int pl, .ref 1231, .int vd, .int kn, .int rk, .ref 1232]))) 1212 = some (.inl (0, 4096, .inl f)) := (am_up_ne (show 1212 ≠ 1225 from by decide)).trans ((am_up_ne (show 1212 ≠ 1229 from by decide)).trans (h2))
    refine v_callV (rest := []) (As := [.int (nI i)]) (mc' := 0) (ms' := 0) (am_Dk d_MR_quoted (k := 7) rfl) c_MR_148 (Or.inl ⟨_, _, _, _, _, m1, cq_ok12⟩) (t_MR_look G (d := 0) (i := i) (by omega) m1 m2 hn (by omega)) (by omega) (by omega) (by omega) (by simp [Value.category]) rfl (fun v3 M4 n5 h6 => ?_) (fun _ _ _ h6 => ?_)
    rotate_left
    · exact absurd h6.1 (by simp)
    obtain ⟨h6, e7, e8⟩ := h6
    replace e7 := e7.symm
    replace e8 := e8.symm
    subst e7
    subst e8
    cases h6
    show am_V G _ _ _ _ _ 12 [(1, .int (nI i)), (0, .ref 1225)] [.int (lk f n i)] (am_up (am_up M 1229 (.inl (0, 4096, .inl g))) 1225 (.inr (12, [.ref 1226, .ref 1227, .ref 1228, .ref 1213, .ref 1220, .ref 1212, .int (nI n), .int (nI p), .int be, .int tk, .int op, .long nu, .ref 1229, .int (nI l), .ref 1230, .int tp, .int pl, .ref 1231, .int vd, .int kn, .int rk, .ref 1232]))) nx 0 0
    refine v_istore_n (L1 := [(2, .int (lk f n i)), (1, .int (nI i)), (0, .ref 1225)]) (am_Dk d_MR_quoted (k := 8) rfl) (by decide) rfl ?_
    refine v_iload_n (am_Dk d_MR_quoted (k := 9) rfl) rfl ?_
    refine v_bipush (v := 32) (am_Dk d_MR_quoted (k := 10) rfl) (by decide) ?_
    refine v_icmp_lt (tgt := 25) (am_Dk d_MR_quoted (k := 11) rfl) (by decide) (fun c9 => ?_) (fun c9 => ?_)
    · refine v_aload_n (am_Dk d_MR_quoted (k := 15) rfl) rfl ?_
      refine v_bipush (v := 12) (am_Dk d_MR_quoted (k := 16) rfl) (by decide) ?_
      refine v_aload_n (am_Dk d_MR_quoted (k := 17) rfl) rfl ?_
      refine v_get (am_Dk d_MR_quoted (k := 18) rfl) f_MR_116 m1 rfl ?_
      refine v_iconst (v := 1) (am_Dk d_MR_quoted (k := 19) rfl) (by decide) ?_
      refine v_iadd (am_Dk d_MR_quoted (k := 20) rfl) ?_
      rw [nI_1]
      refine v_callV (rest := []) (As := [.int 12, .int (nI (p + 1))]) (mc' := 0) (ms' := 0) (am_Dk d_MR_quoted (k := 21) rfl) c_MR_158 (Or.inl ⟨_, _, _, _, _, m1, cq_ok12⟩) (t_MR_take G (d := 0) (by omega) m1) (by omega) (by omega) (by omega) (by simp [Value.category]) rfl (fun v10 M11 n12 h13 => ?_) (fun _ _ _ h13 => ?_)
      rotate_left
      · exact absurd h13.1 (by simp)
      obtain ⟨h13, e14, e15⟩ := h13
      replace e14 := e14.symm
      replace e15 := e15.symm
      subst e14
      subst e15
      cases h13
      rw [am_uu0 (a := 1225)]
      show am_V G _ _ _ _ _ 37 [(2, .int (lk f n i)), (1, .int (nI i)), (0, .ref 1225)] [] (am_up (am_up M 1229 (.inl (0, 4096, .inl g))) 1225 (.inr (12, [.ref 1226, .ref 1227, .ref 1228, .ref 1213, .ref 1220, .ref 1212, .int (nI n), .int (nI p), .int (nI (p + 1)), .int 12, .int op, .long nu, .ref 1229, .int (nI l), .ref 1230, .int tp, .int pl, .ref 1231, .int vd, .int kn, .int rk, .ref 1232]))) nx 0 0
      exact v_return (am_Dk d_MR_quoted (k := 22) rfl) rfl (by omega) (by omega) (Or.inr ⟨hE39, l, g, hg, by have := hwq.1; omega, rfl, rfl, rfl⟩)
    · exact absurd (show lk f n i < 32 from by rw [hlk]; decide) c9
  | succ m ih =>
    intro i l g L hm hi hwq hg hq hL1 hL0
    rw [qdF] at hq
    refine v_drop (L := [(1, .int (nI i)), (0, .ref 1225)]) ?_ (fun q hq => by simp only [List.mem_cons, List.not_mem_nil, or_false] at hq; rcases hq with h | h <;> (subst h; assumption))
    by_cases hin : i < n
    rotate_left
    · rw [if_neg hin] at hq
      have hlk : lk f n i = -1 := by rw [lk, if_neg (by omega)]
      have hE39 : ¬ tb f n E = 39 := by rw [← hq, tb, if_neg (by omega)]; decide
      refine v_aload_n (am_Dk d_MR_quoted (k := 5) rfl) rfl ?_
      refine v_iload_n (am_Dk d_MR_quoted (k := 6) rfl) rfl ?_
      have m1 : (am_up (am_up M 1229 (.inl (0, 4096, .inl g))) 1225 (.inr (12, [.ref 1226, .ref 1227, .ref 1228, .ref 1213, .ref 1220, .ref 1212, .int (nI n), .int (nI p), .int be, .int tk, .int op, .long nu, .ref 1229, .int (nI l), .ref 1230, .int tp, .int pl, .ref 1231, .int vd, .int kn, .int rk, .ref 1232]))) 1225 = some (.inr (12, [.ref 1226, .ref 1227, .ref 1228, .ref 1213, .ref 1220, .ref 1212, .int (nI n), .int (nI p), .int be, .int tk, .int op, .long nu, .ref 1229, .int (nI l), .ref 1230, .int tp, .int pl, .ref 1231, .int vd, .int kn, .int rk, .ref 1232])) := am_up_eq _ _ _
      have m2 : (am_up (am_up M 1229 (.inl (0, 4096, .inl g))) 1225 (.inr (12, [.ref 1226, .ref 1227, .ref 1228, .ref 1213, .ref 1220, .ref 1212, .int (nI n), .int (nI p), .int be, .int tk, .int op, .long nu, .ref 1229, .int (nI l), .ref 1230, .int tp, .int pl, .ref 1231, .int vd, .int kn, .int rk, .ref 1232]))) 1212 = some (.inl (0, 4096, .inl f)) := (am_up_ne (show 1212 ≠ 1225 from by decide)).trans ((am_up_ne (show 1212 ≠ 1229 from by decide)).trans (h2))
      refine v_callV (rest := []) (As := [.int (nI i)]) (mc' := 0) (ms' := 0) (am_Dk d_MR_quoted (k := 7) rfl) c_MR_148 (Or.inl ⟨_, _, _, _, _, m1, cq_ok12⟩) (t_MR_look G (d := 0) (i := i) (by omega) m1 m2 hn (by omega)) (by omega) (by omega) (by omega) (by simp [Value.category]) rfl (fun v3 M4 n5 h6 => ?_) (fun _ _ _ h6 => ?_)
      rotate_left
      · exact absurd h6.1 (by simp)
      obtain ⟨h6, e7, e8⟩ := h6
      replace e7 := e7.symm
      replace e8 := e8.symm
      subst e7
      subst e8
      cases h6
      show am_V G _ _ _ _ _ 12 [(1, .int (nI i)), (0, .ref 1225)] [.int (lk f n i)] (am_up (am_up M 1229 (.inl (0, 4096, .inl g))) 1225 (.inr (12, [.ref 1226, .ref 1227, .ref 1228, .ref 1213, .ref 1220, .ref 1212, .int (nI n), .int (nI p), .int be, .int tk, .int op, .long nu, .ref 1229, .int (nI l), .ref 1230, .int tp, .int pl, .ref 1231, .int vd, .int kn, .int rk, .ref 1232]))) nx 0 0
      refine v_istore_n (L1 := [(2, .int (lk f n i)), (1, .int (nI i)), (0, .ref 1225)]) (am_Dk d_MR_quoted (k := 8) rfl) (by decide) rfl ?_
      refine v_iload_n (am_Dk d_MR_quoted (k := 9) rfl) rfl ?_
      refine v_bipush (v := 32) (am_Dk d_MR_quoted (k := 10) rfl) (by decide) ?_
      refine v_icmp_lt (tgt := 25) (am_Dk d_MR_quoted (k := 11) rfl) (by decide) (fun c9 => ?_) (fun c9 => ?_)
      · refine v_aload_n (am_Dk d_MR_quoted (k := 15) rfl) rfl ?_
        refine v_bipush (v := 12) (am_Dk d_MR_quoted (k := 16) rfl) (by decide) ?_
        refine v_aload_n (am_Dk d_MR_quoted (k := 17) rfl) rfl ?_
        refine v_get (am_Dk d_MR_quoted (k := 18) rfl) f_MR_116 m1 rfl ?_
        refine v_iconst (v := 1) (am_Dk d_MR_quoted (k := 19) rfl) (by decide) ?_
        refine v_iadd (am_Dk d_MR_quoted (k := 20) rfl) ?_
        rw [nI_1]
        refine v_callV (rest := []) (As := [.int 12, .int (nI (p + 1))]) (mc' := 0) (ms' := 0) (am_Dk d_MR_quoted (k := 21) rfl) c_MR_158 (Or.inl ⟨_, _, _, _, _, m1, cq_ok12⟩) (t_MR_take G (d := 0) (by omega) m1) (by omega) (by omega) (by omega) (by simp [Value.category]) rfl (fun v10 M11 n12 h13 => ?_) (fun _ _ _ h13 => ?_)
        rotate_left
        · exact absurd h13.1 (by simp)
        obtain ⟨h13, e14, e15⟩ := h13
        replace e14 := e14.symm
        replace e15 := e15.symm
        subst e14
        subst e15
        cases h13
        rw [am_uu0 (a := 1225)]
        show am_V G _ _ _ _ _ 37 [(2, .int (lk f n i)), (1, .int (nI i)), (0, .ref 1225)] [] (am_up (am_up M 1229 (.inl (0, 4096, .inl g))) 1225 (.inr (12, [.ref 1226, .ref 1227, .ref 1228, .ref 1213, .ref 1220, .ref 1212, .int (nI n), .int (nI p), .int (nI (p + 1)), .int 12, .int op, .long nu, .ref 1229, .int (nI l), .ref 1230, .int tp, .int pl, .ref 1231, .int vd, .int kn, .int rk, .ref 1232]))) nx 0 0
        exact v_return (am_Dk d_MR_quoted (k := 22) rfl) rfl (by omega) (by omega) (Or.inr ⟨hE39, l, g, hg, by have := hwq.1; omega, rfl, rfl, rfl⟩)
      · exact absurd (show lk f n i < 32 from by rw [hlk]; decide) c9
    rw [if_pos hin] at hq
    have hc39 : lk f n i = 39 ↔ tb f n i = 39 := lk_c hb n i (by decide)
    have hd39 : lk f n (i + 1) = 39 ↔ tb f n (i + 1) = 39 := lk_c hb n (i + 1) (by decide)
    have hwl := hwq.1
    have hio := lk_io hb (n := n) (i := i)
    refine v_aload_n (am_Dk d_MR_quoted (k := 5) rfl) rfl ?_
    refine v_iload_n (am_Dk d_MR_quoted (k := 6) rfl) rfl ?_
    have m1 : (am_up (am_up M 1229 (.inl (0, 4096, .inl g))) 1225 (.inr (12, [.ref 1226, .ref 1227, .ref 1228, .ref 1213, .ref 1220, .ref 1212, .int (nI n), .int (nI p), .int be, .int tk, .int op, .long nu, .ref 1229, .int (nI l), .ref 1230, .int tp, .int pl, .ref 1231, .int vd, .int kn, .int rk, .ref 1232]))) 1225 = some (.inr (12, [.ref 1226, .ref 1227, .ref 1228, .ref 1213, .ref 1220, .ref 1212, .int (nI n), .int (nI p), .int be, .int tk, .int op, .long nu, .ref 1229, .int (nI l), .ref 1230, .int tp, .int pl, .ref 1231, .int vd, .int kn, .int rk, .ref 1232])) := am_up_eq _ _ _
    have m2 : (am_up (am_up M 1229 (.inl (0, 4096, .inl g))) 1225 (.inr (12, [.ref 1226, .ref 1227, .ref 1228, .ref 1213, .ref 1220, .ref 1212, .int (nI n), .int (nI p), .int be, .int tk, .int op, .long nu, .ref 1229, .int (nI l), .ref 1230, .int tp, .int pl, .ref 1231, .int vd, .int kn, .int rk, .ref 1232]))) 1212 = some (.inl (0, 4096, .inl f)) := (am_up_ne (show 1212 ≠ 1225 from by decide)).trans ((am_up_ne (show 1212 ≠ 1229 from by decide)).trans (h2))
    refine v_callV (rest := []) (As := [.int (nI i)]) (mc' := 0) (ms' := 0) (am_Dk d_MR_quoted (k := 7) rfl) c_MR_148 (Or.inl ⟨_, _, _, _, _, m1, cq_ok12⟩) (t_MR_look G (d := 0) (i := i) (by omega) m1 m2 hn (by omega)) (by omega) (by omega) (by omega) (by simp [Value.category]) rfl (fun v3 M4 n5 h6 => ?_) (fun _ _ _ h6 => ?_)
    rotate_left
    · exact absurd h6.1 (by simp)
    obtain ⟨h6, e7, e8⟩ := h6
    replace e7 := e7.symm
    replace e8 := e8.symm
    subst e7
    subst e8
    cases h6
    show am_V G _ _ _ _ _ 12 [(1, .int (nI i)), (0, .ref 1225)] [.int (lk f n i)] (am_up (am_up M 1229 (.inl (0, 4096, .inl g))) 1225 (.inr (12, [.ref 1226, .ref 1227, .ref 1228, .ref 1213, .ref 1220, .ref 1212, .int (nI n), .int (nI p), .int be, .int tk, .int op, .long nu, .ref 1229, .int (nI l), .ref 1230, .int tp, .int pl, .ref 1231, .int vd, .int kn, .int rk, .ref 1232]))) nx 0 0
    refine v_istore_n (L1 := [(2, .int (lk f n i)), (1, .int (nI i)), (0, .ref 1225)]) (am_Dk d_MR_quoted (k := 8) rfl) (by decide) rfl ?_
    refine v_iload_n (am_Dk d_MR_quoted (k := 9) rfl) rfl ?_
    refine v_bipush (v := 32) (am_Dk d_MR_quoted (k := 10) rfl) (by decide) ?_
    refine v_icmp_lt (tgt := 25) (am_Dk d_MR_quoted (k := 11) rfl) (by decide) (fun c9 => ?_) (fun c9 => ?_)
    · have hE39 : ¬ tb f n E = 39 := by rw [if_neg (hio.2 (Or.inl c9))] at hq; rw [← hq]; intro z; rw [← hc39] at z; rw [z] at c9; exact absurd c9 (by decide)
      refine v_aload_n (am_Dk d_MR_quoted (k := 15) rfl) rfl ?_
      refine v_bipush (v := 12) (am_Dk d_MR_quoted (k := 16) rfl) (by decide) ?_
      refine v_aload_n (am_Dk d_MR_quoted (k := 17) rfl) rfl ?_
      refine v_get (am_Dk d_MR_quoted (k := 18) rfl) f_MR_116 m1 rfl ?_
      refine v_iconst (v := 1) (am_Dk d_MR_quoted (k := 19) rfl) (by decide) ?_
      refine v_iadd (am_Dk d_MR_quoted (k := 20) rfl) ?_
      rw [nI_1]
      refine v_callV (rest := []) (As := [.int 12, .int (nI (p + 1))]) (mc' := 0) (ms' := 0) (am_Dk d_MR_quoted (k := 21) rfl) c_MR_158 (Or.inl ⟨_, _, _, _, _, m1, cq_ok12⟩) (t_MR_take G (d := 0) (by omega) m1) (by omega) (by omega) (by omega) (by simp [Value.category]) rfl (fun v10 M11 n12 h13 => ?_) (fun _ _ _ h13 => ?_)
      rotate_left
      · exact absurd h13.1 (by simp)
      obtain ⟨h13, e14, e15⟩ := h13
      replace e14 := e14.symm
      replace e15 := e15.symm
      subst e14
      subst e15
      cases h13
      rw [am_uu0 (a := 1225)]
      show am_V G _ _ _ _ _ 37 [(2, .int (lk f n i)), (1, .int (nI i)), (0, .ref 1225)] [] (am_up (am_up M 1229 (.inl (0, 4096, .inl g))) 1225 (.inr (12, [.ref 1226, .ref 1227, .ref 1228, .ref 1213, .ref 1220, .ref 1212, .int (nI n), .int (nI p), .int (nI (p + 1)), .int 12, .int op, .long nu, .ref 1229, .int (nI l), .ref 1230, .int tp, .int pl, .ref 1231, .int vd, .int kn, .int rk, .ref 1232]))) nx 0 0
      exact v_return (am_Dk d_MR_quoted (k := 22) rfl) rfl (by omega) (by omega) (Or.inr ⟨hE39, l, g, hg, by have := hwq.1; omega, rfl, rfl, rfl⟩)
    · have h32 := c9
      refine v_iload_n (am_Dk d_MR_quoted (k := 12) rfl) rfl ?_
      refine v_bipush (v := 126) (am_Dk d_MR_quoted (k := 13) rfl) (by decide) ?_
      refine v_icmp_le (tgt := 38) (am_Dk d_MR_quoted (k := 14) rfl) (by decide) (fun c16 => ?_) (fun c16 => ?_)
      · have h126 := c16
        refine v_iinc (v := nI (i + 1)) (L1 := [(1, .int (nI (i + 1))), (2, .int (lk f n i)), (0, .ref 1225)]) (am_Dk d_MR_quoted (k := 23) rfl) rfl (nI_1 _) (by decide) rfl ?_
        refine v_iload_n (am_Dk d_MR_quoted (k := 24) rfl) rfl ?_
        refine v_bipush (v := 39) (am_Dk d_MR_quoted (k := 25) rfl) (by decide) ?_
        refine v_icmp_eq (tgt := 55) (am_Dk d_MR_quoted (k := 26) rfl) (by decide) (fun c17 => ?_) (fun c17 => ?_)
        · have hc : tb f n i = 39 := hc39.mp c17
          refine v_aload_n (am_Dk d_MR_quoted (k := 31) rfl) rfl ?_
          refine v_iload_n (am_Dk d_MR_quoted (k := 32) rfl) rfl ?_
          refine v_callV (rest := []) (As := [.int (nI (i + 1))]) (mc' := 0) (ms' := 0) (am_Dk d_MR_quoted (k := 33) rfl) c_MR_148 (Or.inl ⟨_, _, _, _, _, m1, cq_ok12⟩) (t_MR_look G (d := 0) (i := i + 1) (by omega) m1 m2 hn (by omega)) (by omega) (by omega) (by omega) (by simp [Value.category]) rfl (fun v18 M19 n20 h21 => ?_) (fun _ _ _ h21 => ?_)
          rotate_left
          · exact absurd h21.1 (by simp)
          obtain ⟨h21, e22, e23⟩ := h21
          replace e22 := e22.symm
          replace e23 := e23.symm
          subst e22
          subst e23
          cases h21
          show am_V G _ _ _ _ _ 60 [(1, .int (nI (i + 1))), (2, .int (lk f n i)), (0, .ref 1225)] [.int (lk f n (i + 1))] (am_up (am_up M 1229 (.inl (0, 4096, .inl g))) 1225 (.inr (12, [.ref 1226, .ref 1227, .ref 1228, .ref 1213, .ref 1220, .ref 1212, .int (nI n), .int (nI p), .int be, .int tk, .int op, .long nu, .ref 1229, .int (nI l), .ref 1230, .int tp, .int pl, .ref 1231, .int vd, .int kn, .int rk, .ref 1232]))) nx 0 0
          refine v_bipush (v := 39) (am_Dk d_MR_quoted (k := 34) rfl) (by decide) ?_
          refine v_icmp_ne (tgt := 77) (am_Dk d_MR_quoted (k := 35) rfl) (by decide) (fun c24 => ?_) (fun c24 => ?_)
          · have hE : i = E := by rw [if_neg (show ¬ inq (tb f n) i = true from by rw [inq, if_pos hc]; exact ne_true_of_eq_false (decide_eq_false (fun z => c24 (hd39.mpr z))))] at hq; exact hq
            have hE39 : tb f n E = 39 := by rw [← hE]; exact hc
            refine v_aload_n (am_Dk d_MR_quoted (k := 41) rfl) rfl ?_
            refine v_iconst (v := 3) (am_Dk d_MR_quoted (k := 42) rfl) (by decide) ?_
            refine v_iload_n (am_Dk d_MR_quoted (k := 43) rfl) rfl ?_
            refine v_callV (rest := []) (As := [.int 3, .int (nI (i + 1))]) (mc' := 0) (ms' := 0) (am_Dk d_MR_quoted (k := 44) rfl) c_MR_158 (Or.inl ⟨_, _, _, _, _, m1, cq_ok12⟩) (t_MR_take G (d := 0) (by omega) m1) (by omega) (by omega) (by omega) (by simp [Value.category]) rfl (fun v25 M26 n27 h28 => ?_) (fun _ _ _ h28 => ?_)
            rotate_left
            · exact absurd h28.1 (by simp)
            obtain ⟨h28, e29, e30⟩ := h28
            replace e29 := e29.symm
            replace e30 := e30.symm
            subst e29
            subst e30
            cases h28
            rw [am_uu0 (a := 1225)]
            show am_V G _ _ _ _ _ 83 [(1, .int (nI (i + 1))), (2, .int (lk f n i)), (0, .ref 1225)] [] (am_up (am_up M 1229 (.inl (0, 4096, .inl g))) 1225 (.inr (12, [.ref 1226, .ref 1227, .ref 1228, .ref 1213, .ref 1220, .ref 1212, .int (nI n), .int (nI p), .int (nI (i + 1)), .int 3, .int op, .long nu, .ref 1229, .int (nI l), .ref 1230, .int tp, .int pl, .ref 1231, .int vd, .int kn, .int rk, .ref 1232]))) nx 0 0
            exact v_return (am_Dk d_MR_quoted (k := 45) rfl) rfl (by omega) (by omega) (Or.inl ⟨hE39, l, g, hE ▸ hwq, hg, by have := hwq.1; omega, rfl, by rw [← hE], rfl⟩)
          · have hinq : inq (tb f n) i = true := by rw [inq, if_pos hc]; exact decide_eq_true (hd39.mp c24)
            have hi1 : i + 1 < n := tb_in (hd39.mp c24) (by decide)
            refine v_aload_n (am_Dk d_MR_quoted (k := 36) rfl) rfl ?_
            refine v_bipush (v := 39) (am_Dk d_MR_quoted (k := 37) rfl) (by decide) ?_
            have m31 : (am_up (am_up M 1229 (.inl (0, 4096, .inl g))) 1225 (.inr (12, [.ref 1226, .ref 1227, .ref 1228, .ref 1213, .ref 1220, .ref 1212, .int (nI n), .int (nI p), .int be, .int tk, .int op, .long nu, .ref 1229, .int (nI l), .ref 1230, .int tp, .int pl, .ref 1231, .int vd, .int kn, .int rk, .ref 1232]))) 1229 = some (.inl (0, 4096, .inl g)) := (am_up_ne (show 1229 ≠ 1225 from by decide)).trans (am_up_eq _ _ _)
            refine v_callV (rest := []) (As := [.int 39]) (mc' := 0) (ms' := 0) (am_Dk d_MR_quoted (k := 38) rfl) c_MR_154 (Or.inl ⟨_, _, _, _, _, m1, cq_ok12⟩) (t_MR_letter G (d := 0) (le := 0) (l := l) (by omega) m1 m31 (by omega)) (by omega) (by omega) (by omega) (by simp [Value.category]) rfl (fun v32 M33 n34 h35 => ?_) (fun _ _ _ h35 => ?_)
            rotate_left
            · exact absurd h35.1 (by simp)
            obtain ⟨h35, e36, e37⟩ := h35
            replace e36 := e36.symm
            replace e37 := e37.symm
            subst e36
            subst e37
            cases h35
            rw [lt_nar ⟨by decide, by decide⟩]
            rw [am_uu1 (a := 1229)]
            rw [am_uu1 (a := 1225)]
            show am_V G _ _ _ _ _ 71 [(1, .int (nI (i + 1))), (2, .int (lk f n i)), (0, .ref 1225)] [] (am_up (am_up M 1229 (.inl (0, 4096, .inl (upd g l 39)))) 1225 (.inr (12, [.ref 1226, .ref 1227, .ref 1228, .ref 1213, .ref 1220, .ref 1212, .int (nI n), .int (nI p), .int be, .int tk, .int op, .long nu, .ref 1229, .int (nI (l + 1)), .ref 1230, .int tp, .int pl, .ref 1231, .int vd, .int kn, .int rk, .ref 1232]))) nx 0 0
            refine v_iinc (v := nI (i + 2)) (L1 := [(1, .int (nI (i + 2))), (2, .int (lk f n i)), (0, .ref 1225)]) (am_Dk d_MR_quoted (k := 39) rfl) rfl (nI_1 _) (by decide) rfl ?_
            refine v_goto (tgt := 84) (am_Dk d_MR_quoted (k := 40) rfl) (by decide) ?_
            refine v_goto (tgt := 7) (am_Dk d_MR_quoted (k := 46) rfl) (by decide) ?_
            exact ih (i + 2) _ _ _ (by omega) (by omega) (wqI_2 hwq hc) (tbB_up hg ⟨by decide, by decide⟩) (by rw [if_pos hinq, if_pos hc] at hq; exact hq) (by simp) (by simp)
        · have hn39 : ¬ tb f n i = 39 := fun z => c17 (hc39.mpr z)
          have hinq : inq (tb f n) i = true := (hio.1 ⟨h32, h126⟩ hn39).1
          have htc : lk f n i = tb f n i := (hio.1 ⟨h32, h126⟩ hn39).2
          have hcb : -128 ≤ (lk f n i).toInt ∧ (lk f n i).toInt ≤ 127 := ⟨by have := Int32.le_iff_toInt_le.mp (Int32.not_lt.mp h32); have z : (32 : Int32).toInt = 32 := (by decide); omega, lk_le hb n i⟩
          refine v_aload_n (am_Dk d_MR_quoted (k := 27) rfl) rfl ?_
          refine v_iload_n (am_Dk d_MR_quoted (k := 28) rfl) rfl ?_
          have m38 : (am_up (am_up M 1229 (.inl (0, 4096, .inl g))) 1225 (.inr (12, [.ref 1226, .ref 1227, .ref 1228, .ref 1213, .ref 1220, .ref 1212, .int (nI n), .int (nI p), .int be, .int tk, .int op, .long nu, .ref 1229, .int (nI l), .ref 1230, .int tp, .int pl, .ref 1231, .int vd, .int kn, .int rk, .ref 1232]))) 1229 = some (.inl (0, 4096, .inl g)) := (am_up_ne (show 1229 ≠ 1225 from by decide)).trans (am_up_eq _ _ _)
          refine v_callV (rest := []) (As := [.int (lk f n i)]) (mc' := 0) (ms' := 0) (am_Dk d_MR_quoted (k := 29) rfl) c_MR_154 (Or.inl ⟨_, _, _, _, _, m1, cq_ok12⟩) (t_MR_letter G (d := 0) (le := 0) (l := l) (by omega) m1 m38 (by omega)) (by omega) (by omega) (by omega) (by simp [Value.category]) rfl (fun v39 M40 n41 h42 => ?_) (fun _ _ _ h42 => ?_)
          rotate_left
          · exact absurd h42.1 (by simp)
          obtain ⟨h42, e43, e44⟩ := h42
          replace e43 := e43.symm
          replace e44 := e44.symm
          subst e43
          subst e44
          cases h42
          rw [lt_nar (hcb)]
          rw [am_uu1 (a := 1229)]
          rw [am_uu1 (a := 1225)]
          show am_V G _ _ _ _ _ 52 [(1, .int (nI (i + 1))), (2, .int (lk f n i)), (0, .ref 1225)] [] (am_up (am_up M 1229 (.inl (0, 4096, .inl (upd g l (lk f n i))))) 1225 (.inr (12, [.ref 1226, .ref 1227, .ref 1228, .ref 1213, .ref 1220, .ref 1212, .int (nI n), .int (nI p), .int be, .int tk, .int op, .long nu, .ref 1229, .int (nI (l + 1)), .ref 1230, .int tp, .int pl, .ref 1231, .int vd, .int kn, .int rk, .ref 1232]))) nx 0 0
          refine v_goto (tgt := 84) (am_Dk d_MR_quoted (k := 30) rfl) (by decide) ?_
          refine v_goto (tgt := 7) (am_Dk d_MR_quoted (k := 46) rfl) (by decide) ?_
          exact ih (i + 1) _ _ _ (by omega) (by omega) (wqI_1 hwq htc.symm) (tbB_up hg hcb) (by rw [if_pos hinq, if_neg hn39] at hq; exact hq) (by simp) (by simp)
      · have h127 := Int32.not_le.mp c16
        have hE39 : ¬ tb f n E = 39 := by rw [if_neg (hio.2 (Or.inr h127))] at hq; rw [← hq]; intro z; rw [← hc39] at z; rw [z] at h127; exact absurd h127 (by decide)
        refine v_aload_n (am_Dk d_MR_quoted (k := 15) rfl) rfl ?_
        refine v_bipush (v := 12) (am_Dk d_MR_quoted (k := 16) rfl) (by decide) ?_
        refine v_aload_n (am_Dk d_MR_quoted (k := 17) rfl) rfl ?_
        refine v_get (am_Dk d_MR_quoted (k := 18) rfl) f_MR_116 m1 rfl ?_
        refine v_iconst (v := 1) (am_Dk d_MR_quoted (k := 19) rfl) (by decide) ?_
        refine v_iadd (am_Dk d_MR_quoted (k := 20) rfl) ?_
        rw [nI_1]
        refine v_callV (rest := []) (As := [.int 12, .int (nI (p + 1))]) (mc' := 0) (ms' := 0) (am_Dk d_MR_quoted (k := 21) rfl) c_MR_158 (Or.inl ⟨_, _, _, _, _, m1, cq_ok12⟩) (t_MR_take G (d := 0) (by omega) m1) (by omega) (by omega) (by omega) (by simp [Value.category]) rfl (fun v45 M46 n47 h48 => ?_) (fun _ _ _ h48 => ?_)
        rotate_left
        · exact absurd h48.1 (by simp)
        obtain ⟨h48, e49, e50⟩ := h48
        replace e49 := e49.symm
        replace e50 := e50.symm
        subst e49
        subst e50
        cases h48
        rw [am_uu0 (a := 1225)]
        show am_V G _ _ _ _ _ 37 [(2, .int (lk f n i)), (1, .int (nI i)), (0, .ref 1225)] [] (am_up (am_up M 1229 (.inl (0, 4096, .inl g))) 1225 (.inr (12, [.ref 1226, .ref 1227, .ref 1228, .ref 1213, .ref 1220, .ref 1212, .int (nI n), .int (nI p), .int (nI (p + 1)), .int 12, .int op, .long nu, .ref 1229, .int (nI l), .ref 1230, .int tp, .int pl, .ref 1231, .int vd, .int kn, .int rk, .ref 1232]))) nx 0 0
        exact v_return (am_Dk d_MR_quoted (k := 22) rfl) rfl (by omega) (by omega) (Or.inr ⟨hE39, l, g, hg, by have := hwq.1; omega, rfl, rfl, rfl⟩)
set_option maxRecDepth 20000 in
theorem t_MR_quoted (G : am_G) {d nx : Nat} (hd : 1 ≤ d) {M : am_M} {n : Nat} {at9 be tk op le tp pl vd kn rk : Int32} {nu : Int64} {p : Nat} (hr : M 1225 = some (.inr (12, [.ref 1226, .ref 1227, .ref 1228, .ref 1213, .ref 1220, .ref 1212, .int (nI n), .int (nI p), .int be, .int tk, .int op, .long nu, .ref 1229, .int 0, .ref 1230, .int tp, .int pl, .ref 1231, .int vd, .int kn, .int rk, .ref 1232]))) {f : Nat → Int32} (h2 : M 1212 = some (.inl (0, 4096, .inl f))) (hn : n ≤ 4096) (hb : tbB f) (hp : p < n) {g0 : Nat → Int32} (hw : M 1229 = some (.inl (0, 4096, .inl g0))) (hg0 : tbB g0) : am_Tr G m_MR_quoted d 0 0 [.ref 1225] M nx (fun r M1 nx1 => (tb f n (qd (tb f n) n (p + 1)) = 39 ∧ ∃ l g, wqI f n p (qd (tb f n) n (p + 1)) l g ∧ tbB g ∧ l ≤ 4096 ∧ r = .inl none ∧ M1 = am_up (am_up M 1229 (.inl (0, 4096, .inl g))) 1225 (.inr (12, [.ref 1226, .ref 1227, .ref 1228, .ref 1213, .ref 1220, .ref 1212, .int (nI n), .int (nI p), .int (nI ((qd (tb f n) n (p + 1)) + 1)), .int 3, .int op, .long nu, .ref 1229, .int (nI l), .ref 1230, .int tp, .int pl, .ref 1231, .int vd, .int kn, .int rk, .ref 1232])) ∧ nx1 = nx) ∨ (¬ tb f n (qd (tb f n) n (p + 1)) = 39 ∧ ∃ l g, tbB g ∧ l ≤ 4096 ∧ r = .inl none ∧ M1 = am_up (am_up M 1229 (.inl (0, 4096, .inl g))) 1225 (.inr (12, [.ref 1226, .ref 1227, .ref 1228, .ref 1213, .ref 1220, .ref 1212, .int (nI n), .int (nI p), .int (nI (p + 1)), .int 12, .int op, .long nu, .ref 1229, .int (nI l), .ref 1230, .int tp, .int pl, .ref 1231, .int vd, .int kn, .int rk, .ref 1232])) ∧ nx1 = nx)) := by
  refine am_TrOf (by decide) (Nat.le_of_ble_eq_true rfl) ?_
  show am_V G _ _ _ _ _ 0 [(0, .ref 1225)] [] M nx 0 0
  refine v_aload_n (am_Dk d_MR_quoted (k := 0) rfl) rfl ?_
  refine v_get (am_Dk d_MR_quoted (k := 1) rfl) f_MR_116 hr rfl ?_
  refine v_iconst (v := 1) (am_Dk d_MR_quoted (k := 2) rfl) (by decide) ?_
  refine v_iadd (am_Dk d_MR_quoted (k := 3) rfl) ?_
  rw [nI_1]
  refine v_istore_n (L1 := [(1, .int (nI (p + 1))), (0, .ref 1225)]) (am_Dk d_MR_quoted (k := 4) rfl) (by decide) rfl ?_
  exact am_V_eq ((am_up_id (show (am_up M 1229 (.inl (0, 4096, .inl g0))) 1225 = some (.inr (12, [.ref 1226, .ref 1227, .ref 1228, .ref 1213, .ref 1220, .ref 1212, .int (nI n), .int (nI p), .int be, .int tk, .int op, .long nu, .ref 1229, .int (nI 0), .ref 1230, .int tp, .int pl, .ref 1231, .int vd, .int kn, .int rk, .ref 1232])) from (am_up_ne (show 1225 ≠ 1229 from by decide)).trans hr)).trans (am_up_id hw)) (l_MR_quoted1 G (at9 := 0) (le := 0) (by omega) hr h2 hn hb hp hw hg0 (n - (p + 1)) (p + 1) 0 g0 _ (by omega) (by omega) ⟨by omega, Or.inl ⟨by omega, fun j hj => absurd hj (by omega)⟩⟩ hg0 rfl (by simp) (by simp))
