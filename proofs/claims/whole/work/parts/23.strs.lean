/-! A BYTE OF THE TAPE, STRINGS AMONG THE CONSTANTS, NAMES SPELLED (mine; rows laid by the walker) -/
def tb (f : Nat → Int32) (n i : Nat) : Int32 := if i < n then f i &&& 255 else -1
def am_Str (S B : Nat) (w : List Nat) : Prop := (S, "java/lang/String") ∈ am_ko ∧ (S, "java/lang/String", "coder", "B", Value.int 0) ∈ am_kf ∧ (S, "java/lang/String", "value", "[B", Value.ref B) ∈ am_kf ∧ (B, FieldType.byte, w.map fun c => Value.int (nI c)) ∈ am_kt ∧ w.length < 32 ∧ ∀ c ∈ w, c < 128
theorem st_shr0 (x : Int32) : x >>> ((0 : Int32) &&& 31) = x := by
  have : ((0 : Int32) &&& 31) = 0 := by decide
  rw [this]
  exact Int32.shiftRight_zero
theorem nI_sub {a b : Nat} (h : b ≤ a) : nI a - nI b = nI (a - b) := by
  have e : a = (a - b) + b := by omega
  conv => lhs; rw [e]
  rw [← nI_add]
  exact Int32.add_sub_cancel _ _
theorem st_nib : ∀ c, c < 128 → UInt32.toInt32 (Int32.toUInt32 ((nI c) &&& 255) % 65536) = nI c ∧ narrow .char (.int (nI c)) = .int (nI c) := by decide +kernel
theorem st_getD {w : List Nat} {i : Nat} (h : i < w.length) (hw : ∀ c ∈ w, c < 128) : w.getD i 0 < 128 := by
  rw [List.getD_eq_getElem?_getD, List.getElem?_eq_getElem h]
  exact hw _ (List.getElem_mem h)
theorem st_mapD {w : List Nat} {i : Nat} (h : i < w.length) : (w.map fun c => Value.int (nI c)).getD i .null = .int (nI (w.getD i 0)) := by
  rw [List.getD_eq_getElem?_getD, List.getElem?_map, List.getElem?_eq_getElem h, List.getD_eq_getElem?_getD, List.getElem?_eq_getElem h]
  rfl
theorem bi0 {b : Bool} : bi b = 0 ↔ b = false := by cases b <;> decide
set_option maxRecDepth 20000 in
theorem t_Tape_at (G : am_G) {d nx : Nat} (hd : 0 ≤ d) {M : am_M} {f : Nat → Int32} {n : Nat} (h1 : M 1001 = some (.inr (1, [.ref 1002, .int (nI n)]))) (h2 : M 1002 = some (.inl (0, 4096, .inl f))) (hn : n ≤ 4096) {i : Nat} (hi : i < 100000) : am_Tr G m_Tape_at d 0 0 [.ref 1001, .int (nI i)] M nx (fun r M1 nx1 => r = .inl (some (.int (tb f n i))) ∧ M1 = M ∧ nx1 = nx) := by
  refine am_TrOf (by decide) (Nat.le_of_ble_eq_true rfl) ?_
  show am_V G _ _ _ _ _ 0 [(0, .ref 1001), (1, .int (nI i))] [] M nx 0 0
  refine v_iload_n (am_Dk d_Tape_at (k := 0) rfl) rfl ?_
  refine v_if_lt (tgt := 25) (am_Dk d_Tape_at (k := 1) rfl) (by decide) (fun c1 => ?_) (fun c1 => ?_)
  · have Nc1 := (nI_ltI (a := i) (b := 0) (by omega) (by omega)).mp c1
    exfalso
    omega
  · have Nc1 : ¬ i < 0 := fun z => c1 ((nI_ltI (a := i) (b := 0) (by omega) (by omega)).mpr z)
    refine v_iload_n (am_Dk d_Tape_at (k := 2) rfl) rfl ?_
    refine v_aload_n (am_Dk d_Tape_at (k := 3) rfl) rfl ?_
    refine v_get (am_Dk d_Tape_at (k := 4) rfl) f_Tape_15 h1 rfl ?_
    refine v_icmp_ge (tgt := 25) (am_Dk d_Tape_at (k := 5) rfl) (by decide) (fun c2 => ?_) (fun c2 => ?_)
    · have Nc2 := (nI_leI (a := n) (b := i) (by omega) (by omega)).mp c2
      refine v_iconst (v := (-1)) (am_Dk d_Tape_at (k := 13) rfl) (by decide) ?_
      exact v_ireturn (am_Dk d_Tape_at (k := 14) rfl) rfl rfl (by omega) (by omega) ⟨by rw [tb, if_neg (by omega)], rfl, rfl⟩
    · have Nc2 : ¬ n ≤ i := fun z => c2 ((nI_leI (a := n) (b := i) (by omega) (by omega)).mpr z)
      refine v_aload_n (am_Dk d_Tape_at (k := 6) rfl) rfl ?_
      refine v_get (am_Dk d_Tape_at (k := 7) rfl) f_Tape_9 h1 rfl ?_
      refine v_iload_n (am_Dk d_Tape_at (k := 8) rfl) rfl ?_
      refine v_bald (am_Dk d_Tape_at (k := 9) rfl) h2 rfl (vp_in4 (by omega)) ?_
      rw [nI_clamp (n := i) (by omega)]
      refine v_sipush (v := 255) (am_Dk d_Tape_at (k := 10) rfl) (by decide) ?_
      refine v_iand (am_Dk d_Tape_at (k := 11) rfl) ?_
      refine v_goto (tgt := 26) (am_Dk d_Tape_at (k := 12) rfl) (by decide) ?_
      exact v_ireturn (am_Dk d_Tape_at (k := 14) rfl) rfl rfl (by omega) (by omega) ⟨by rw [tb, if_pos (by omega)], rfl, rfl⟩
set_option maxRecDepth 20000 in
theorem t_jS_coder (G : am_G) {d nx : Nat} (hd : 0 ≤ d) {M : am_M} {S B : Nat} {w : List Nat} (hS : am_Str S B w) : am_Tr G m_jS_coder d 0 0 [.ref S] M nx (fun r M1 nx1 => r = .inl (some (.int 0)) ∧ M1 = M ∧ nx1 = nx) := by
  refine am_TrOf (by decide) (Nat.le_of_ble_eq_true rfl) ?_
  show am_V G _ _ _ _ _ 0 [(0, .ref S)] [] M nx 0 0
  refine v_gets (v := .int 1) (am_Dk d_jS_coder (k := 0) rfl) s_jS_38 (by decide +kernel) ?_
  refine v_if_eq (tgt := 13) (am_Dk d_jS_coder (k := 1) rfl) (by decide) (fun c1 => ?_) (fun c1 => ?_)
  · exact absurd c1 (by decide)
  · have Nc1 : ¬ 1 = 0 := fun z => c1 ((nI_eq (a := 1) (b := 0) (by omega) (by omega)).mpr z)
    refine v_aload_n (am_Dk d_jS_coder (k := 2) rfl) rfl ?_
    refine v_getK (i := S) (v := .int 0) (am_Dk d_jS_coder (k := 3) rfl) g_jS_15 (Or.inl rfl) hS.2.1 ?_
    refine v_goto (tgt := 14) (am_Dk d_jS_coder (k := 4) rfl) (by decide) ?_
    exact v_ireturn (am_Dk d_jS_coder (k := 6) rfl) rfl rfl (by omega) (by omega) ⟨rfl, rfl, rfl⟩
set_option maxRecDepth 20000 in
theorem t_jS_length (G : am_G) {d nx : Nat} (hd : 1 ≤ d) {M : am_M} {S B : Nat} {w : List Nat} (hS : am_Str S B w) : am_Tr G m_jS_length d 0 0 [.ref S] M nx (fun r M1 nx1 => r = .inl (some (.int (nI w.length))) ∧ M1 = M ∧ nx1 = nx) := by
  refine am_TrOf (by decide) (Nat.le_of_ble_eq_true rfl) ?_
  show am_V G _ _ _ _ _ 0 [(0, .ref S)] [] M nx 0 0
  refine v_aload_n (am_Dk d_jS_length (k := 0) rfl) rfl ?_
  refine v_getK (i := S) (v := .ref B) (am_Dk d_jS_length (k := 1) rfl) g_jS_9 (Or.inl rfl) hS.2.2.1 ?_
  refine v_tlen (v := nI w.length) (am_Dk d_jS_length (k := 2) rfl) hS.2.2.2.1 (by rw [List.length_map]; rfl) ?_
  refine v_aload_n (am_Dk d_jS_length (k := 3) rfl) rfl ?_
  refine v_callV (rest := [.int (nI w.length)]) (As := []) (mc' := 0) (ms' := 0) (am_Dk d_jS_length (k := 4) rfl) c_jS_335 (Or.inr hS.1) (t_jS_coder G (d := 0) (by omega) hS) (by omega) (by omega) (by omega) (by simp [Value.category]) rfl (fun v1 M2 n3 h4 => ?_) (fun _ _ _ h4 => ?_)
  rotate_left
  · exact absurd h4.1 (by simp)
  obtain ⟨h4, e5, e6⟩ := h4
  replace e5 := e5.symm
  replace e6 := e6.symm
  subst e5
  subst e6
  cases h4
  show am_V G _ _ _ _ _ 9 [(0, .ref S)] [.int 0, .int (nI w.length)] M nx 0 0
  refine v_ishr (am_Dk d_jS_length (k := 5) rfl) ?_
  exact v_ireturn (am_Dk d_jS_length (k := 6) rfl) rfl rfl (by omega) (by omega) ⟨by rw [st_shr0], rfl, rfl⟩
set_option maxRecDepth 20000 in
theorem t_jS_isLatin1 (G : am_G) {d nx : Nat} (hd : 0 ≤ d) {M : am_M} {S B : Nat} {w : List Nat} (hS : am_Str S B w) : am_Tr G m_jS_isLatin1 d 0 0 [.ref S] M nx (fun r M1 nx1 => r = .inl (some (.int 1)) ∧ M1 = M ∧ nx1 = nx) := by
  refine am_TrOf (by decide) (Nat.le_of_ble_eq_true rfl) ?_
  show am_V G _ _ _ _ _ 0 [(0, .ref S)] [] M nx 0 0
  refine v_gets (v := .int 1) (am_Dk d_jS_isLatin1 (k := 0) rfl) s_jS_38 (by decide +kernel) ?_
  refine v_if_eq (tgt := 17) (am_Dk d_jS_isLatin1 (k := 1) rfl) (by decide) (fun c1 => ?_) (fun c1 => ?_)
  · exact absurd c1 (by decide)
  · have Nc1 : ¬ 1 = 0 := fun z => c1 ((nI_eq (a := 1) (b := 0) (by omega) (by omega)).mpr z)
    refine v_aload_n (am_Dk d_jS_isLatin1 (k := 2) rfl) rfl ?_
    refine v_getK (i := S) (v := .int 0) (am_Dk d_jS_isLatin1 (k := 3) rfl) g_jS_15 (Or.inl rfl) hS.2.1 ?_
    refine v_if_ne (tgt := 17) (am_Dk d_jS_isLatin1 (k := 4) rfl) (by decide) (fun c2 => ?_) (fun c2 => ?_)
    · exact absurd c2 (by decide)
    · have Nc2 := (nI_eq (a := 0) (b := 0) (by omega) (by omega)).mp c2
      refine v_iconst (v := 1) (am_Dk d_jS_isLatin1 (k := 5) rfl) (by decide) ?_
      refine v_goto (tgt := 18) (am_Dk d_jS_isLatin1 (k := 6) rfl) (by decide) ?_
      exact v_ireturn (am_Dk d_jS_isLatin1 (k := 8) rfl) rfl rfl (by omega) (by omega) ⟨rfl, rfl, rfl⟩
set_option maxRecDepth 20000 in
theorem t_jP_checkIndexN (G : am_G) {d nx : Nat} (hd : 0 ≤ d) {M : am_M} {i m : Nat} (hi : i < m) (hm : m < 100000) : am_Tr G m_jP_checkIndex d 0 0 [.int (nI i), .int (nI m), .null] M nx (fun r M1 nx1 => r = .inl (some (.int (nI i))) ∧ M1 = M ∧ nx1 = nx) := by
  refine am_TrOf (by decide) (Nat.le_of_ble_eq_true rfl) ?_
  show am_V G _ _ _ _ _ 0 [(0, .int (nI i)), (1, .int (nI m)), (2, .null)] [] M nx 0 0
  refine v_iload_n (am_Dk d_jP_checkIndex (k := 0) rfl) rfl ?_
  refine v_if_lt (tgt := 9) (am_Dk d_jP_checkIndex (k := 1) rfl) (by decide) (fun c1 => ?_) (fun c1 => ?_)
  · have Nc1 := (nI_ltI (a := i) (b := 0) (by omega) (by omega)).mp c1
    exfalso
    omega
  · have Nc1 : ¬ i < 0 := fun z => c1 ((nI_ltI (a := i) (b := 0) (by omega) (by omega)).mpr z)
    refine v_iload_n (am_Dk d_jP_checkIndex (k := 2) rfl) rfl ?_
    refine v_iload_n (am_Dk d_jP_checkIndex (k := 3) rfl) rfl ?_
    refine v_icmp_lt (tgt := 16) (am_Dk d_jP_checkIndex (k := 4) rfl) (by decide) (fun c2 => ?_) (fun c2 => ?_)
    · have Nc2 := (nI_ltI (a := i) (b := m) (by omega) (by omega)).mp c2
      refine v_iload_n (am_Dk d_jP_checkIndex (k := 10) rfl) rfl ?_
      exact v_ireturn (am_Dk d_jP_checkIndex (k := 11) rfl) rfl rfl (by omega) (by omega) ⟨rfl, rfl, rfl⟩
    · have Nc2 : ¬ i < m := fun z => c2 ((nI_ltI (a := i) (b := m) (by omega) (by omega)).mpr z)
      exfalso
      omega
set_option maxRecDepth 20000 in
theorem t_jP_checkIndex (G : am_G) {d nx : Nat} (hd : 0 ≤ d) {M : am_M} {i m : Nat} (hi : i < m) (hm : m < 100000) : am_Tr G m_jP_checkIndex d 0 0 [.int (nI i), .int (nI m), .ref 56] M nx (fun r M1 nx1 => r = .inl (some (.int (nI i))) ∧ M1 = M ∧ nx1 = nx) := by
  refine am_TrOf (by decide) (Nat.le_of_ble_eq_true rfl) ?_
  show am_V G _ _ _ _ _ 0 [(0, .int (nI i)), (1, .int (nI m)), (2, .ref 56)] [] M nx 0 0
  refine v_iload_n (am_Dk d_jP_checkIndex (k := 0) rfl) rfl ?_
  refine v_if_lt (tgt := 9) (am_Dk d_jP_checkIndex (k := 1) rfl) (by decide) (fun c1 => ?_) (fun c1 => ?_)
  · have Nc1 := (nI_ltI (a := i) (b := 0) (by omega) (by omega)).mp c1
    exfalso
    omega
  · have Nc1 : ¬ i < 0 := fun z => c1 ((nI_ltI (a := i) (b := 0) (by omega) (by omega)).mpr z)
    refine v_iload_n (am_Dk d_jP_checkIndex (k := 2) rfl) rfl ?_
    refine v_iload_n (am_Dk d_jP_checkIndex (k := 3) rfl) rfl ?_
    refine v_icmp_lt (tgt := 16) (am_Dk d_jP_checkIndex (k := 4) rfl) (by decide) (fun c2 => ?_) (fun c2 => ?_)
    · have Nc2 := (nI_ltI (a := i) (b := m) (by omega) (by omega)).mp c2
      refine v_iload_n (am_Dk d_jP_checkIndex (k := 10) rfl) rfl ?_
      exact v_ireturn (am_Dk d_jP_checkIndex (k := 11) rfl) rfl rfl (by omega) (by omega) ⟨rfl, rfl, rfl⟩
    · have Nc2 : ¬ i < m := fun z => c2 ((nI_ltI (a := i) (b := m) (by omega) (by omega)).mpr z)
      exfalso
      omega
set_option maxRecDepth 20000 in
theorem t_jS_checkIndex (G : am_G) {d nx : Nat} (hd : 1 ≤ d) {M : am_M} {i m : Nat} (hi : i < m) (hm : m < 100000) : am_Tr G m_jS_checkIndex d 0 0 [.int (nI i), .int (nI m)] M nx (fun r M1 nx1 => r = .inl none ∧ M1 = M ∧ nx1 = nx) := by
  refine am_TrOf (by decide) (Nat.le_of_ble_eq_true rfl) ?_
  show am_V G _ _ _ _ _ 0 [(0, .int (nI i)), (1, .int (nI m))] [] M nx 0 0
  refine v_iload_n (am_Dk d_jS_checkIndex (k := 0) rfl) rfl ?_
  refine v_iload_n (am_Dk d_jS_checkIndex (k := 1) rfl) rfl ?_
  refine v_getsQ (am_Dk d_jS_checkIndex (k := 2) rfl) s_jS_1053 ?_ ?_
  · refine v_callS (rest := []) (As := [.int (nI i), .int (nI m), .null]) (mc' := 0) (ms' := 0) (am_Dk d_jS_checkIndex (k := 3) rfl) c_jS_1059 (t_jP_checkIndexN G (d := 0) (by omega) hi hm) (by omega) (by omega) (by omega) (by simp [Value.category]) rfl (fun v1 M2 n3 h4 => ?_) (fun _ _ _ h4 => ?_)
    rotate_left
    · exact absurd h4.1 (by simp)
    obtain ⟨h4, e5, e6⟩ := h4
    replace e5 := e5.symm
    replace e6 := e6.symm
    subst e5
    subst e6
    cases h4
    show am_V G _ _ _ _ _ 8 [(0, .int (nI i)), (1, .int (nI m))] [.int (nI i)] M nx 0 0
    refine v_pop (am_Dk d_jS_checkIndex (k := 4) rfl) rfl ?_
    exact v_return (am_Dk d_jS_checkIndex (k := 5) rfl) rfl (by omega) (by omega) ⟨rfl, rfl, rfl⟩
  · refine v_callS (rest := []) (As := [.int (nI i), .int (nI m), .ref 56]) (mc' := 0) (ms' := 0) (am_Dk d_jS_checkIndex (k := 3) rfl) c_jS_1059 (t_jP_checkIndex G (d := 0) (by omega) hi hm) (by omega) (by omega) (by omega) (by simp [Value.category]) rfl (fun v7 M8 n9 h10 => ?_) (fun _ _ _ h10 => ?_)
    rotate_left
    · exact absurd h10.1 (by simp)
    obtain ⟨h10, e11, e12⟩ := h10
    replace e11 := e11.symm
    replace e12 := e12.symm
    subst e11
    subst e12
    cases h10
    show am_V G _ _ _ _ _ 8 [(0, .int (nI i)), (1, .int (nI m))] [.int (nI i)] M nx 0 0
    refine v_pop (am_Dk d_jS_checkIndex (k := 4) rfl) rfl ?_
    exact v_return (am_Dk d_jS_checkIndex (k := 5) rfl) rfl (by omega) (by omega) ⟨rfl, rfl, rfl⟩
set_option maxRecDepth 20000 in
theorem t_jL_charAt (G : am_G) {d nx : Nat} (hd : 2 ≤ d) {M : am_M} {S B : Nat} {w : List Nat} (hS : am_Str S B w) {i : Nat} (hi : i < w.length) : am_Tr G m_jL_charAt d 0 0 [.ref B, .int (nI i)] M nx (fun r M1 nx1 => r = .inl (some (.int (nI (w.getD i 0)))) ∧ M1 = M ∧ nx1 = nx) := by
  refine am_TrOf (by decide) (Nat.le_of_ble_eq_true rfl) ?_
  show am_V G _ _ _ _ _ 0 [(0, .ref B), (1, .int (nI i))] [] M nx 0 0
  have hl := hS.2.2.2.2.1
  refine v_iload_n (am_Dk d_jL_charAt (k := 0) rfl) rfl ?_
  refine v_aload_n (am_Dk d_jL_charAt (k := 1) rfl) rfl ?_
  refine v_tlen (v := nI w.length) (am_Dk d_jL_charAt (k := 2) rfl) hS.2.2.2.1 (by rw [List.length_map]; rfl) ?_
  refine v_callS (rest := []) (As := [.int (nI i), .int (nI w.length)]) (mc' := 0) (ms' := 0) (am_Dk d_jL_charAt (k := 3) rfl) c_jL_9 (t_jS_checkIndex G (d := 1) (by omega) hi (by omega)) (by omega) (by omega) (by omega) (by simp [Value.category]) rfl (fun v1 M2 n3 h4 => ?_) (fun _ _ _ h4 => ?_)
  rotate_left
  · exact absurd h4.1 (by simp)
  obtain ⟨h4, e5, e6⟩ := h4
  replace e5 := e5.symm
  replace e6 := e6.symm
  subst e5
  subst e6
  cases h4
  show am_V G _ _ _ _ _ 6 [(0, .ref B), (1, .int (nI i))] [] M nx 0 0
  refine v_aload_n (am_Dk d_jL_charAt (k := 4) rfl) rfl ?_
  refine v_iload_n (am_Dk d_jL_charAt (k := 5) rfl) rfl ?_
  refine v_tbald (v := .int (nI (w.getD i 0))) (am_Dk d_jL_charAt (k := 6) rfl) hS.2.2.2.1 (by rw [List.length_map]; exact vp_in_nI hi (by omega)) (by rw [nI_clamp (n := i) (by omega)]; exact st_mapD hi) ?_
  refine v_sipush (v := 255) (am_Dk d_jL_charAt (k := 7) rfl) (by decide) ?_
  refine v_iand (am_Dk d_jL_charAt (k := 8) rfl) ?_
  refine v_i2c (am_Dk d_jL_charAt (k := 9) rfl) rfl ?_
  rw [(st_nib _ (st_getD hi hS.2.2.2.2.2)).1]
  exact v_ireturn (am_Dk d_jL_charAt (k := 10) rfl) rfl (st_nib _ (st_getD hi hS.2.2.2.2.2)).2 (by omega) (by omega) ⟨rfl, rfl, rfl⟩
set_option maxRecDepth 20000 in
theorem t_jS_charAt (G : am_G) {d nx : Nat} (hd : 3 ≤ d) {M : am_M} {S B : Nat} {w : List Nat} (hS : am_Str S B w) {i : Nat} (hi : i < w.length) : am_Tr G m_jS_charAt d 0 0 [.ref S, .int (nI i)] M nx (fun r M1 nx1 => r = .inl (some (.int (nI (w.getD i 0)))) ∧ M1 = M ∧ nx1 = nx) := by
  refine am_TrOf (by decide) (Nat.le_of_ble_eq_true rfl) ?_
  show am_V G _ _ _ _ _ 0 [(0, .ref S), (1, .int (nI i))] [] M nx 0 0
  refine v_aload_n (am_Dk d_jS_charAt (k := 0) rfl) rfl ?_
  refine v_callV (rest := []) (As := []) (mc' := 0) (ms' := 0) (am_Dk d_jS_charAt (k := 1) rfl) c_jS_492 (Or.inr hS.1) (t_jS_isLatin1 G (d := 0) (by omega) hS) (by omega) (by omega) (by omega) (by simp [Value.category]) rfl (fun v1 M2 n3 h4 => ?_) (fun _ _ _ h4 => ?_)
  rotate_left
  · exact absurd h4.1 (by simp)
  obtain ⟨h4, e5, e6⟩ := h4
  replace e5 := e5.symm
  replace e6 := e6.symm
  subst e5
  subst e6
  cases h4
  show am_V G _ _ _ _ _ 4 [(0, .ref S), (1, .int (nI i))] [.int 1] M nx 0 0
  refine v_if_eq (tgt := 16) (am_Dk d_jS_charAt (k := 2) rfl) (by decide) (fun c7 => ?_) (fun c7 => ?_)
  · exact absurd c7 (by decide)
  · have Nc7 : ¬ 1 = 0 := fun z => c7 ((nI_eq (a := 1) (b := 0) (by omega) (by omega)).mpr z)
    refine v_aload_n (am_Dk d_jS_charAt (k := 3) rfl) rfl ?_
    refine v_getK (i := S) (v := .ref B) (am_Dk d_jS_charAt (k := 4) rfl) g_jS_9 (Or.inl rfl) hS.2.2.1 ?_
    refine v_iload_n (am_Dk d_jS_charAt (k := 5) rfl) rfl ?_
    refine v_callS (rest := []) (As := [.ref B, .int (nI i)]) (mc' := 0) (ms' := 0) (am_Dk d_jS_charAt (k := 6) rfl) c_jS_495 (t_jL_charAt G (d := 2) (by omega) hS hi) (by omega) (by omega) (by omega) (by simp [Value.category]) rfl (fun v8 M9 n10 h11 => ?_) (fun _ _ _ h11 => ?_)
    rotate_left
    · exact absurd h11.1 (by simp)
    obtain ⟨h11, e12, e13⟩ := h11
    replace e12 := e12.symm
    replace e13 := e13.symm
    subst e12
    subst e13
    cases h11
    show am_V G _ _ _ _ _ 15 [(0, .ref S), (1, .int (nI i))] [.int (nI (w.getD i 0))] M nx 0 0
    exact v_ireturn (am_Dk d_jS_charAt (k := 7) rfl) rfl (st_nib _ (st_getD hi hS.2.2.2.2.2)).2 (by omega) (by omega) ⟨rfl, rfl, rfl⟩
def kn_S (k : Nat) : Nat := [100, 100, 101, 102, 103, 104, 105, 106, 107, 108, 109, 110, 111, 112, 113, 114, 115, 116, 117, 118, 119, 120, 121, 122, 123, 124].getD k 0
def kn_B (k : Nat) : Nat := [200, 200, 201, 202, 203, 204, 205, 206, 207, 208, 209, 210, 211, 212, 213, 214, 215, 216, 217, 218, 219, 220, 221, 222, 223, 224].getD k 0
def kn_w (k : Nat) : List Nat := [[], [], [58, 45], [59], [45, 62], [92, 43], [61], [92, 61], [61, 61], [92, 61, 61], [105, 115], [60], [62], [61, 60], [62, 61], [61, 58, 61], [61, 92, 61], [43], [45], [42], [47, 47], [109, 111, 100], [114, 101, 109], [97, 98, 115], [109, 105, 110], [109, 97, 120]].getD k []
theorem kn_0 : (0, "ValueReckoner$Name") ∈ am_ko ∧ (0, "ValueReckoner$Name", "text", "Ljava/lang/String;", Value.ref (kn_S 0)) ∈ am_kf ∧ am_Str (kn_S 0) (kn_B 0) (kn_w 0) := ⟨by decide +kernel, by decide +kernel, by decide +kernel, by decide +kernel, by decide +kernel, by decide +kernel, by decide +kernel, by decide +kernel⟩
theorem kn_1 : (1, "ValueReckoner$Name") ∈ am_ko ∧ (1, "ValueReckoner$Name", "text", "Ljava/lang/String;", Value.ref (kn_S 1)) ∈ am_kf ∧ am_Str (kn_S 1) (kn_B 1) (kn_w 1) := ⟨by decide +kernel, by decide +kernel, by decide +kernel, by decide +kernel, by decide +kernel, by decide +kernel, by decide +kernel, by decide +kernel⟩
theorem kn_2 : (2, "ValueReckoner$Name") ∈ am_ko ∧ (2, "ValueReckoner$Name", "text", "Ljava/lang/String;", Value.ref (kn_S 2)) ∈ am_kf ∧ am_Str (kn_S 2) (kn_B 2) (kn_w 2) := ⟨by decide +kernel, by decide +kernel, by decide +kernel, by decide +kernel, by decide +kernel, by decide +kernel, by decide +kernel, by decide +kernel⟩
theorem kn_3 : (3, "ValueReckoner$Name") ∈ am_ko ∧ (3, "ValueReckoner$Name", "text", "Ljava/lang/String;", Value.ref (kn_S 3)) ∈ am_kf ∧ am_Str (kn_S 3) (kn_B 3) (kn_w 3) := ⟨by decide +kernel, by decide +kernel, by decide +kernel, by decide +kernel, by decide +kernel, by decide +kernel, by decide +kernel, by decide +kernel⟩
theorem kn_4 : (4, "ValueReckoner$Name") ∈ am_ko ∧ (4, "ValueReckoner$Name", "text", "Ljava/lang/String;", Value.ref (kn_S 4)) ∈ am_kf ∧ am_Str (kn_S 4) (kn_B 4) (kn_w 4) := ⟨by decide +kernel, by decide +kernel, by decide +kernel, by decide +kernel, by decide +kernel, by decide +kernel, by decide +kernel, by decide +kernel⟩
theorem kn_5 : (5, "ValueReckoner$Name") ∈ am_ko ∧ (5, "ValueReckoner$Name", "text", "Ljava/lang/String;", Value.ref (kn_S 5)) ∈ am_kf ∧ am_Str (kn_S 5) (kn_B 5) (kn_w 5) := ⟨by decide +kernel, by decide +kernel, by decide +kernel, by decide +kernel, by decide +kernel, by decide +kernel, by decide +kernel, by decide +kernel⟩
theorem kn_6 : (6, "ValueReckoner$Name") ∈ am_ko ∧ (6, "ValueReckoner$Name", "text", "Ljava/lang/String;", Value.ref (kn_S 6)) ∈ am_kf ∧ am_Str (kn_S 6) (kn_B 6) (kn_w 6) := ⟨by decide +kernel, by decide +kernel, by decide +kernel, by decide +kernel, by decide +kernel, by decide +kernel, by decide +kernel, by decide +kernel⟩
theorem kn_7 : (7, "ValueReckoner$Name") ∈ am_ko ∧ (7, "ValueReckoner$Name", "text", "Ljava/lang/String;", Value.ref (kn_S 7)) ∈ am_kf ∧ am_Str (kn_S 7) (kn_B 7) (kn_w 7) := ⟨by decide +kernel, by decide +kernel, by decide +kernel, by decide +kernel, by decide +kernel, by decide +kernel, by decide +kernel, by decide +kernel⟩
theorem kn_8 : (8, "ValueReckoner$Name") ∈ am_ko ∧ (8, "ValueReckoner$Name", "text", "Ljava/lang/String;", Value.ref (kn_S 8)) ∈ am_kf ∧ am_Str (kn_S 8) (kn_B 8) (kn_w 8) := ⟨by decide +kernel, by decide +kernel, by decide +kernel, by decide +kernel, by decide +kernel, by decide +kernel, by decide +kernel, by decide +kernel⟩
theorem kn_9 : (9, "ValueReckoner$Name") ∈ am_ko ∧ (9, "ValueReckoner$Name", "text", "Ljava/lang/String;", Value.ref (kn_S 9)) ∈ am_kf ∧ am_Str (kn_S 9) (kn_B 9) (kn_w 9) := ⟨by decide +kernel, by decide +kernel, by decide +kernel, by decide +kernel, by decide +kernel, by decide +kernel, by decide +kernel, by decide +kernel⟩
theorem kn_10 : (10, "ValueReckoner$Name") ∈ am_ko ∧ (10, "ValueReckoner$Name", "text", "Ljava/lang/String;", Value.ref (kn_S 10)) ∈ am_kf ∧ am_Str (kn_S 10) (kn_B 10) (kn_w 10) := ⟨by decide +kernel, by decide +kernel, by decide +kernel, by decide +kernel, by decide +kernel, by decide +kernel, by decide +kernel, by decide +kernel⟩
theorem kn_11 : (11, "ValueReckoner$Name") ∈ am_ko ∧ (11, "ValueReckoner$Name", "text", "Ljava/lang/String;", Value.ref (kn_S 11)) ∈ am_kf ∧ am_Str (kn_S 11) (kn_B 11) (kn_w 11) := ⟨by decide +kernel, by decide +kernel, by decide +kernel, by decide +kernel, by decide +kernel, by decide +kernel, by decide +kernel, by decide +kernel⟩
theorem kn_12 : (12, "ValueReckoner$Name") ∈ am_ko ∧ (12, "ValueReckoner$Name", "text", "Ljava/lang/String;", Value.ref (kn_S 12)) ∈ am_kf ∧ am_Str (kn_S 12) (kn_B 12) (kn_w 12) := ⟨by decide +kernel, by decide +kernel, by decide +kernel, by decide +kernel, by decide +kernel, by decide +kernel, by decide +kernel, by decide +kernel⟩
theorem kn_13 : (13, "ValueReckoner$Name") ∈ am_ko ∧ (13, "ValueReckoner$Name", "text", "Ljava/lang/String;", Value.ref (kn_S 13)) ∈ am_kf ∧ am_Str (kn_S 13) (kn_B 13) (kn_w 13) := ⟨by decide +kernel, by decide +kernel, by decide +kernel, by decide +kernel, by decide +kernel, by decide +kernel, by decide +kernel, by decide +kernel⟩
theorem kn_14 : (14, "ValueReckoner$Name") ∈ am_ko ∧ (14, "ValueReckoner$Name", "text", "Ljava/lang/String;", Value.ref (kn_S 14)) ∈ am_kf ∧ am_Str (kn_S 14) (kn_B 14) (kn_w 14) := ⟨by decide +kernel, by decide +kernel, by decide +kernel, by decide +kernel, by decide +kernel, by decide +kernel, by decide +kernel, by decide +kernel⟩
theorem kn_15 : (15, "ValueReckoner$Name") ∈ am_ko ∧ (15, "ValueReckoner$Name", "text", "Ljava/lang/String;", Value.ref (kn_S 15)) ∈ am_kf ∧ am_Str (kn_S 15) (kn_B 15) (kn_w 15) := ⟨by decide +kernel, by decide +kernel, by decide +kernel, by decide +kernel, by decide +kernel, by decide +kernel, by decide +kernel, by decide +kernel⟩
theorem kn_16 : (16, "ValueReckoner$Name") ∈ am_ko ∧ (16, "ValueReckoner$Name", "text", "Ljava/lang/String;", Value.ref (kn_S 16)) ∈ am_kf ∧ am_Str (kn_S 16) (kn_B 16) (kn_w 16) := ⟨by decide +kernel, by decide +kernel, by decide +kernel, by decide +kernel, by decide +kernel, by decide +kernel, by decide +kernel, by decide +kernel⟩
theorem kn_17 : (17, "ValueReckoner$Name") ∈ am_ko ∧ (17, "ValueReckoner$Name", "text", "Ljava/lang/String;", Value.ref (kn_S 17)) ∈ am_kf ∧ am_Str (kn_S 17) (kn_B 17) (kn_w 17) := ⟨by decide +kernel, by decide +kernel, by decide +kernel, by decide +kernel, by decide +kernel, by decide +kernel, by decide +kernel, by decide +kernel⟩
theorem kn_18 : (18, "ValueReckoner$Name") ∈ am_ko ∧ (18, "ValueReckoner$Name", "text", "Ljava/lang/String;", Value.ref (kn_S 18)) ∈ am_kf ∧ am_Str (kn_S 18) (kn_B 18) (kn_w 18) := ⟨by decide +kernel, by decide +kernel, by decide +kernel, by decide +kernel, by decide +kernel, by decide +kernel, by decide +kernel, by decide +kernel⟩
theorem kn_19 : (19, "ValueReckoner$Name") ∈ am_ko ∧ (19, "ValueReckoner$Name", "text", "Ljava/lang/String;", Value.ref (kn_S 19)) ∈ am_kf ∧ am_Str (kn_S 19) (kn_B 19) (kn_w 19) := ⟨by decide +kernel, by decide +kernel, by decide +kernel, by decide +kernel, by decide +kernel, by decide +kernel, by decide +kernel, by decide +kernel⟩
theorem kn_20 : (20, "ValueReckoner$Name") ∈ am_ko ∧ (20, "ValueReckoner$Name", "text", "Ljava/lang/String;", Value.ref (kn_S 20)) ∈ am_kf ∧ am_Str (kn_S 20) (kn_B 20) (kn_w 20) := ⟨by decide +kernel, by decide +kernel, by decide +kernel, by decide +kernel, by decide +kernel, by decide +kernel, by decide +kernel, by decide +kernel⟩
theorem kn_21 : (21, "ValueReckoner$Name") ∈ am_ko ∧ (21, "ValueReckoner$Name", "text", "Ljava/lang/String;", Value.ref (kn_S 21)) ∈ am_kf ∧ am_Str (kn_S 21) (kn_B 21) (kn_w 21) := ⟨by decide +kernel, by decide +kernel, by decide +kernel, by decide +kernel, by decide +kernel, by decide +kernel, by decide +kernel, by decide +kernel⟩
theorem kn_22 : (22, "ValueReckoner$Name") ∈ am_ko ∧ (22, "ValueReckoner$Name", "text", "Ljava/lang/String;", Value.ref (kn_S 22)) ∈ am_kf ∧ am_Str (kn_S 22) (kn_B 22) (kn_w 22) := ⟨by decide +kernel, by decide +kernel, by decide +kernel, by decide +kernel, by decide +kernel, by decide +kernel, by decide +kernel, by decide +kernel⟩
theorem kn_23 : (23, "ValueReckoner$Name") ∈ am_ko ∧ (23, "ValueReckoner$Name", "text", "Ljava/lang/String;", Value.ref (kn_S 23)) ∈ am_kf ∧ am_Str (kn_S 23) (kn_B 23) (kn_w 23) := ⟨by decide +kernel, by decide +kernel, by decide +kernel, by decide +kernel, by decide +kernel, by decide +kernel, by decide +kernel, by decide +kernel⟩
theorem kn_24 : (24, "ValueReckoner$Name") ∈ am_ko ∧ (24, "ValueReckoner$Name", "text", "Ljava/lang/String;", Value.ref (kn_S 24)) ∈ am_kf ∧ am_Str (kn_S 24) (kn_B 24) (kn_w 24) := ⟨by decide +kernel, by decide +kernel, by decide +kernel, by decide +kernel, by decide +kernel, by decide +kernel, by decide +kernel, by decide +kernel⟩
theorem kn_25 : (25, "ValueReckoner$Name") ∈ am_ko ∧ (25, "ValueReckoner$Name", "text", "Ljava/lang/String;", Value.ref (kn_S 25)) ∈ am_kf ∧ am_Str (kn_S 25) (kn_B 25) (kn_w 25) := ⟨by decide +kernel, by decide +kernel, by decide +kernel, by decide +kernel, by decide +kernel, by decide +kernel, by decide +kernel, by decide +kernel⟩
theorem kn_all : ∀ k, k < 26 → (k, "ValueReckoner$Name") ∈ am_ko ∧ (k, "ValueReckoner$Name", "text", "Ljava/lang/String;", Value.ref (kn_S k)) ∈ am_kf ∧ am_Str (kn_S k) (kn_B k) (kn_w k)
  | 0, _ => kn_0
  | 1, _ => kn_1
  | 2, _ => kn_2
  | 3, _ => kn_3
  | 4, _ => kn_4
  | 5, _ => kn_5
  | 6, _ => kn_6
  | 7, _ => kn_7
  | 8, _ => kn_8
  | 9, _ => kn_9
  | 10, _ => kn_10
  | 11, _ => kn_11
  | 12, _ => kn_12
  | 13, _ => kn_13
  | 14, _ => kn_14
  | 15, _ => kn_15
  | 16, _ => kn_16
  | 17, _ => kn_17
  | 18, _ => kn_18
  | 19, _ => kn_19
  | 20, _ => kn_20
  | 21, _ => kn_21
  | 22, _ => kn_22
  | 23, _ => kn_23
  | 24, _ => kn_24
  | 25, _ => kn_25
  | k + 26, h => absurd h (by omega)
def spw (f : Nat → Int32) (n : Nat) (w : List Nat) (x y : Nat) : Bool := decide (w.length = y - x ∧ ∀ i, i < w.length → nI (w.getD i 0) = tb f n (x + i))
def splF (f : Nat → Int32) (n x y : Nat) : Nat → Nat → Nat
  | 0, _ => 0
  | m + 1, i => if spw f n (kn_w i) x y then i else splF f n x y m (i + 1)
def spl (f : Nat → Int32) (n x y : Nat) : Nat := splF f n x y 26 0
set_option maxRecDepth 20000 in
theorem l_Nm_isSpelled1 (G : am_G) {d nx : Nat} (hd : 4 ≤ d) {M : am_M} {f : Nat → Int32} {n : Nat} (h1 : M 1001 = some (.inr (1, [.ref 1002, .int (nI n)]))) (h2 : M 1002 = some (.inl (0, 4096, .inl f))) (hn : n ≤ 4096) {k x y : Nat} (hk : k < 26) (hxy : x ≤ y) (hy : y ≤ n) {w : List Nat} (hS : am_Str (kn_S k) (kn_B k) w) (hw : w = kn_w k) (hlen : w.length = y - x) : ∀ m i, i + m = w.length → (∀ j, j < i → nI (w.getD j 0) = tb f n (x + j)) → am_V G m_Nm_isSpelled d 0 0 (fun r M1 nx1 => r = .inl (some (.int (bi (spw f n (kn_w k) x y)))) ∧ M1 = M ∧ nx1 = nx) 18 [(4, .int (nI i)), (0, .ref k), (1, .ref 1001), (2, .int (nI x)), (3, .int (nI y))] [] M nx 0 0 := by
  have hl := hS.2.2.2.2.1
  have hK := (kn_all k hk).2.1
  intro m
  induction m with
  | zero =>
    intro i him hall
    refine v_iload (am_Dk d_Nm_isSpelled (k := 11) rfl) rfl ?_
    refine v_aload_n (am_Dk d_Nm_isSpelled (k := 12) rfl) rfl ?_
    refine v_getK (i := k) (v := .ref (kn_S k)) (am_Dk d_Nm_isSpelled (k := 13) rfl) g_Nm_101 (Or.inl rfl) hK ?_
    refine v_callV (rest := [.int (nI i)]) (As := []) (mc' := 0) (ms' := 0) (am_Dk d_Nm_isSpelled (k := 14) rfl) c_Nm_125 (Or.inr hS.1) (t_jS_length G (d := 1) (by omega) hS) (by omega) (by omega) (by omega) (by simp [Value.category]) rfl (fun v1 M2 n3 h4 => ?_) (fun _ _ _ h4 => ?_)
    rotate_left
    · exact absurd h4.1 (by simp)
    obtain ⟨h4, e5, e6⟩ := h4
    replace e5 := e5.symm
    replace e6 := e6.symm
    subst e5
    subst e6
    cases h4
    show am_V G _ _ _ _ _ 27 [(4, .int (nI i)), (0, .ref k), (1, .ref 1001), (2, .int (nI x)), (3, .int (nI y))] [.int (nI w.length), .int (nI i)] M nx 0 0
    refine v_icmp_ge (tgt := 58) (am_Dk d_Nm_isSpelled (k := 15) rfl) (by decide) (fun c7 => ?_) (fun c7 => ?_)
    · have Nc7 := (nI_leI (a := w.length) (b := i) (by omega) (by omega)).mp c7
      refine v_iconst (v := 1) (am_Dk d_Nm_isSpelled (k := 30) rfl) (by decide) ?_
      exact v_ireturn (am_Dk d_Nm_isSpelled (k := 31) rfl) rfl rfl (by omega) (by omega) ⟨by rw [show spw f n (kn_w k) x y = true from decide_eq_true ⟨by rw [← hw]; exact hlen, fun j hj => by rw [← hw] at hj ⊢; exact hall j (by omega)⟩]; rfl, rfl, rfl⟩
    · have Nc7 : ¬ w.length ≤ i := fun z => c7 ((nI_leI (a := w.length) (b := i) (by omega) (by omega)).mpr z)
      exfalso
      omega
  | succ m ih =>
    intro i him hall
    refine v_iload (am_Dk d_Nm_isSpelled (k := 11) rfl) rfl ?_
    refine v_aload_n (am_Dk d_Nm_isSpelled (k := 12) rfl) rfl ?_
    refine v_getK (i := k) (v := .ref (kn_S k)) (am_Dk d_Nm_isSpelled (k := 13) rfl) g_Nm_101 (Or.inl rfl) hK ?_
    refine v_callV (rest := [.int (nI i)]) (As := []) (mc' := 0) (ms' := 0) (am_Dk d_Nm_isSpelled (k := 14) rfl) c_Nm_125 (Or.inr hS.1) (t_jS_length G (d := 1) (by omega) hS) (by omega) (by omega) (by omega) (by simp [Value.category]) rfl (fun v1 M2 n3 h4 => ?_) (fun _ _ _ h4 => ?_)
    rotate_left
    · exact absurd h4.1 (by simp)
    obtain ⟨h4, e5, e6⟩ := h4
    replace e5 := e5.symm
    replace e6 := e6.symm
    subst e5
    subst e6
    cases h4
    show am_V G _ _ _ _ _ 27 [(4, .int (nI i)), (0, .ref k), (1, .ref 1001), (2, .int (nI x)), (3, .int (nI y))] [.int (nI w.length), .int (nI i)] M nx 0 0
    refine v_icmp_ge (tgt := 58) (am_Dk d_Nm_isSpelled (k := 15) rfl) (by decide) (fun c7 => ?_) (fun c7 => ?_)
    · have Nc7 := (nI_leI (a := w.length) (b := i) (by omega) (by omega)).mp c7
      exfalso
      omega
    · have Nc7 : ¬ w.length ≤ i := fun z => c7 ((nI_leI (a := w.length) (b := i) (by omega) (by omega)).mpr z)
      refine v_aload_n (am_Dk d_Nm_isSpelled (k := 16) rfl) rfl ?_
      refine v_getK (i := k) (v := .ref (kn_S k)) (am_Dk d_Nm_isSpelled (k := 17) rfl) g_Nm_101 (Or.inl rfl) hK ?_
      refine v_iload (am_Dk d_Nm_isSpelled (k := 18) rfl) rfl ?_
      refine v_callV (rest := []) (As := [.int (nI i)]) (mc' := 0) (ms' := 0) (am_Dk d_Nm_isSpelled (k := 19) rfl) c_Nm_131 (Or.inr hS.1) (t_jS_charAt G (d := 3) (i := i) (by omega) hS (by omega)) (by omega) (by omega) (by omega) (by simp [Value.category]) rfl (fun v8 M9 n10 h11 => ?_) (fun _ _ _ h11 => ?_)
      rotate_left
      · exact absurd h11.1 (by simp)
      obtain ⟨h11, e12, e13⟩ := h11
      replace e12 := e12.symm
      replace e13 := e13.symm
      subst e12
      subst e13
      cases h11
      show am_V G _ _ _ _ _ 39 [(4, .int (nI i)), (0, .ref k), (1, .ref 1001), (2, .int (nI x)), (3, .int (nI y))] [.int (nI (w.getD i 0))] M nx 0 0
      refine v_aload_n (am_Dk d_Nm_isSpelled (k := 20) rfl) rfl ?_
      refine v_iload_n (am_Dk d_Nm_isSpelled (k := 21) rfl) rfl ?_
      refine v_iload (am_Dk d_Nm_isSpelled (k := 22) rfl) rfl ?_
      refine v_iadd (am_Dk d_Nm_isSpelled (k := 23) rfl) ?_
      rw [nI_add]
      refine v_callV (rest := [.int (nI (w.getD i 0))]) (As := [.int (nI (x + i))]) (mc' := 0) (ms' := 0) (am_Dk d_Nm_isSpelled (k := 24) rfl) c_Nm_135 (Or.inl ⟨_, _, _, _, _, h1, cq_ok1⟩) (t_Tape_at G (d := 0) (i := x + i) (by omega) h1 h2 (by omega) (by omega)) (by omega) (by omega) (by omega) (by simp [Value.category]) rfl (fun v14 M15 n16 h17 => ?_) (fun _ _ _ h17 => ?_)
      rotate_left
      · exact absurd h17.1 (by simp)
      obtain ⟨h17, e18, e19⟩ := h17
      replace e18 := e18.symm
      replace e19 := e19.symm
      subst e18
      subst e19
      cases h17
      show am_V G _ _ _ _ _ 47 [(4, .int (nI i)), (0, .ref k), (1, .ref 1001), (2, .int (nI x)), (3, .int (nI y))] [.int (tb f n (x + i)), .int (nI (w.getD i 0))] M nx 0 0
      refine v_icmp_eq (tgt := 52) (am_Dk d_Nm_isSpelled (k := 25) rfl) (by decide) (fun c20 => ?_) (fun c20 => ?_)
      · have hEq := c20
        refine v_iinc (v := nI (i + 1)) (L1 := [(4, .int (nI (i + 1))), (0, .ref k), (1, .ref 1001), (2, .int (nI x)), (3, .int (nI y))]) (am_Dk d_Nm_isSpelled (k := 28) rfl) rfl (nI_1 _) (by decide) rfl ?_
        refine v_goto (tgt := 18) (am_Dk d_Nm_isSpelled (k := 29) rfl) (by decide) ?_
        exact ih (i + 1) (by omega) (fun j hj => by
          rcases Nat.lt_succ_iff_lt_or_eq.mp hj with h | h
          · exact hall j h
          · subst h; exact hEq)
      · refine v_iconst (v := 0) (am_Dk d_Nm_isSpelled (k := 26) rfl) (by decide) ?_
        exact v_ireturn (am_Dk d_Nm_isSpelled (k := 27) rfl) rfl rfl (by omega) (by omega) ⟨by rw [show spw f n (kn_w k) x y = false from decide_eq_false (fun z => c20 (by have := z.2 i (by rw [← hw]; omega); rw [← hw] at this; exact this))]; rfl, rfl, rfl⟩
set_option maxRecDepth 20000 in
theorem t_Nm_isSpelled (G : am_G) {d nx : Nat} (hd : 4 ≤ d) {M : am_M} {f : Nat → Int32} {n : Nat} (h1 : M 1001 = some (.inr (1, [.ref 1002, .int (nI n)]))) (h2 : M 1002 = some (.inl (0, 4096, .inl f))) (hn : n ≤ 4096) {k x y : Nat} (hk : k < 26) (hxy : x ≤ y) (hy : y ≤ n) : am_Tr G m_Nm_isSpelled d 0 0 [.ref k, .ref 1001, .int (nI x), .int (nI y)] M nx (fun r M1 nx1 => r = .inl (some (.int (bi (spw f n (kn_w k) x y)))) ∧ M1 = M ∧ nx1 = nx) := by
  refine am_TrOf (by decide) (Nat.le_of_ble_eq_true rfl) ?_
  show am_V G _ _ _ _ _ 0 [(0, .ref k), (1, .ref 1001), (2, .int (nI x)), (3, .int (nI y))] [] M nx 0 0
  obtain ⟨hko, hK, hS⟩ := kn_all k hk
  obtain ⟨w, hw⟩ : ∃ w, w = kn_w k := ⟨_, rfl⟩
  rw [← hw] at hS
  have hl := hS.2.2.2.2.1
  refine v_aload_n (am_Dk d_Nm_isSpelled (k := 0) rfl) rfl ?_
  refine v_getK (i := k) (v := .ref (kn_S k)) (am_Dk d_Nm_isSpelled (k := 1) rfl) g_Nm_101 (Or.inl rfl) hK ?_
  refine v_callV (rest := []) (As := []) (mc' := 0) (ms' := 0) (am_Dk d_Nm_isSpelled (k := 2) rfl) c_Nm_125 (Or.inr hS.1) (t_jS_length G (d := 1) (by omega) hS) (by omega) (by omega) (by omega) (by simp [Value.category]) rfl (fun v1 M2 n3 h4 => ?_) (fun _ _ _ h4 => ?_)
  rotate_left
  · exact absurd h4.1 (by simp)
  obtain ⟨h4, e5, e6⟩ := h4
  replace e5 := e5.symm
  replace e6 := e6.symm
  subst e5
  subst e6
  cases h4
  show am_V G _ _ _ _ _ 7 [(0, .ref k), (1, .ref 1001), (2, .int (nI x)), (3, .int (nI y))] [.int (nI w.length)] M nx 0 0
  refine v_iload_n (am_Dk d_Nm_isSpelled (k := 3) rfl) rfl ?_
  refine v_iload_n (am_Dk d_Nm_isSpelled (k := 4) rfl) rfl ?_
  refine v_isub (am_Dk d_Nm_isSpelled (k := 5) rfl) ?_
  rw [nI_sub hxy]
  refine v_icmp_eq (tgt := 15) (am_Dk d_Nm_isSpelled (k := 6) rfl) (by decide) (fun c7 => ?_) (fun c7 => ?_)
  · have Nc7 := (nI_eq (a := w.length) (b := y - x) (by omega) (by omega)).mp c7
    have hlen := Nc7
    refine v_iconst (v := 0) (am_Dk d_Nm_isSpelled (k := 9) rfl) (by decide) ?_
    refine v_istore (L1 := [(4, .int 0), (0, .ref k), (1, .ref 1001), (2, .int (nI x)), (3, .int (nI y))]) (am_Dk d_Nm_isSpelled (k := 10) rfl) (by decide) rfl ?_
    exact l_Nm_isSpelled1 G hd h1 h2 hn hk hxy hy hS hw hlen w.length 0 (by omega) (fun j hj => by omega)
  · have Nc7 : ¬ w.length = (y - x) := fun z => c7 ((nI_eq (a := w.length) (b := y - x) (by omega) (by omega)).mpr z)
    refine v_iconst (v := 0) (am_Dk d_Nm_isSpelled (k := 7) rfl) (by decide) ?_
    exact v_ireturn (am_Dk d_Nm_isSpelled (k := 8) rfl) rfl rfl (by omega) (by omega) ⟨by rw [show spw f n (kn_w k) x y = false from decide_eq_false (fun z => Nc7 (by have := z.1; rw [← hw] at this; exact this))]; rfl, rfl, rfl⟩
