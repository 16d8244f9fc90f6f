/-! OPERANDS AND THE NAMES' ARITHMETIC (mine; rows laid by the walker) -/
def jabs (a : Int64) : Int64 := if 0 ≤ a then a else -a
def jmax (a b : Int64) : Int64 := if b ≤ a then a else b
def jfm (a b : Int64) : Int64 := if (a ^^^ b) < 0 ∧ ¬ (a - a / b * b) = 0 then a - a / b * b + b else a - a / b * b
def oneK (k : Nat) : Bool := decide (k = 18 ∨ k = 23)
def dvsK (k : Nat) : Bool := decide (k = 20 ∨ k = 21 ∨ k = 22)
def twoK (k : Nat) : Bool := decide (k = 17 ∨ k = 18 ∨ k = 19 ∨ k = 20 ∨ k = 21 ∨ k = 22 ∨ k = 24 ∨ k = 25)
def cmpK (k : Nat) : Bool := decide (k = 11 ∨ k = 12 ∨ k = 13 ∨ k = 14 ∨ k = 15 ∨ k = 16)
def ptg (a b : Int64) : Bool := decide (¬ a = 0 ∧ 9007199254740991 / jabs a < jabs b)
def resK (k : Nat) (a b : Int64) : Int64 := if k = 17 then a + b else if k = 18 then a - b else if k = 19 then a * b else if k = 20 then (if b = 0 then 0 else a / b) else if k = 21 then (if b = 0 then 0 else jfm a b) else if k = 22 then (if b = 0 then 0 else a - a / b * b) else if k = 24 then jmin a b else jmax a b
def truK (k : Nat) (a b : Int64) : Bool := if k = 11 then decide (a < b) else if k = 12 then decide (b < a) else if k = 13 then decide (a ≤ b) else if k = 14 then decide (b ≤ a) else if k = 15 then decide (a = b) else decide (¬ a = b)
theorem jabs_ne {a : Int64} (h : ¬ a = 0) : ¬ jabs a = 0 := by
  unfold jabs
  split
  · exact h
  · intro z
    exact h (by rw [← Int64.neg_neg (a := a), z]; rfl)
set_option maxRecDepth 20000 in
theorem t_jE_ordinal (G : am_G) {d nx : Nat} (hd : 0 ≤ d) {M : am_M} {k : Nat} {v : Int32} (hv : (k, "java/lang/Enum", "ordinal", "I", Value.int v) ∈ am_kf) : am_Tr G m_jE_ordinal d 0 0 [.ref k] M nx (fun r M1 nx1 => r = .inl (some (.int v)) ∧ M1 = M ∧ nx1 = nx) := by
  refine am_TrOf (by decide) (Nat.le_of_ble_eq_true rfl) ?_
  show am_V G _ _ _ _ _ 0 [(0, .ref k)] [] M nx 0 0
  refine v_aload_n (am_Dk d_jE_ordinal (k := 0) rfl) rfl ?_
  refine v_getK (i := k) (v := .int v) (am_Dk d_jE_ordinal (k := 1) rfl) g_jE_7 (Or.inl rfl) hv ?_
  exact v_ireturn (am_Dk d_jE_ordinal (k := 2) rfl) rfl rfl (by omega) (by omega) ⟨rfl, rfl, rfl⟩
set_option maxRecDepth 20000 in
theorem t_jM_abs (G : am_G) {d nx : Nat} (hd : 0 ≤ d) {M : am_M} {a : Int64} : am_Tr G m_jM_abs d 0 0 [.long a] M nx (fun r M1 nx1 => r = .inl (some (.long (jabs a))) ∧ M1 = M ∧ nx1 = nx) := by
  refine am_TrOfF (by decide +kernel) (Nat.le_of_ble_eq_true rfl) ?_
  show am_V G _ _ _ _ _ 0 [(0, .long a)] [] M nx 0 0
  refine v_lload_n (am_Dk d_jM_abs (k := 0) rfl) rfl ?_
  refine v_lconst (v := 0) (am_Dk d_jM_abs (k := 1) rfl) (by decide) ?_
  refine v_lcmp (am_Dk d_jM_abs (k := 2) rfl) ?_
  refine v_if_ge (tgt := 11) (am_Dk d_jM_abs (k := 3) rfl) (by decide) (fun c1 => ?_) (fun c1 => ?_)
  · have Nc1 := (lg_cmp_ge _ _).mp c1
    refine v_lload_n (am_Dk d_jM_abs (k := 7) rfl) rfl ?_
    exact v_lreturn (am_Dk d_jM_abs (k := 8) rfl) rfl (by omega) (by omega) ⟨by rw [jabs, if_pos Nc1], rfl, rfl⟩
  · have Nc1 := fun z => c1 ((lg_cmp_ge _ _).mpr z)
    refine v_lload_n (am_Dk d_jM_abs (k := 4) rfl) rfl ?_
    refine v_lneg (am_Dk d_jM_abs (k := 5) rfl) ?_
    refine v_goto (tgt := 12) (am_Dk d_jM_abs (k := 6) rfl) (by decide) ?_
    exact v_lreturn (am_Dk d_jM_abs (k := 8) rfl) rfl (by omega) (by omega) ⟨by rw [jabs, if_neg Nc1], rfl, rfl⟩
set_option maxRecDepth 20000 in
theorem t_jM_max1 (G : am_G) {d nx : Nat} (hd : 0 ≤ d) {M : am_M} {a b : Int64} : am_Tr G m_jM_max1 d 0 0 [.long a, .long b] M nx (fun r M1 nx1 => r = .inl (some (.long (jmax a b))) ∧ M1 = M ∧ nx1 = nx) := by
  refine am_TrOfF (by decide +kernel) (Nat.le_of_ble_eq_true rfl) ?_
  show am_V G _ _ _ _ _ 0 [(0, .long a), (2, .long b)] [] M nx 0 0
  refine v_lload_n (am_Dk d_jM_max1 (k := 0) rfl) rfl ?_
  refine v_lload_n (am_Dk d_jM_max1 (k := 1) rfl) rfl ?_
  refine v_lcmp (am_Dk d_jM_max1 (k := 2) rfl) ?_
  refine v_if_lt (tgt := 10) (am_Dk d_jM_max1 (k := 3) rfl) (by decide) (fun c1 => ?_) (fun c1 => ?_)
  · have Nc1 := (lg_cmp_lt _ _).mp c1
    refine v_lload_n (am_Dk d_jM_max1 (k := 6) rfl) rfl ?_
    exact v_lreturn (am_Dk d_jM_max1 (k := 7) rfl) rfl (by omega) (by omega) ⟨by rw [jmax, if_neg (Int64.not_le.mpr Nc1)], rfl, rfl⟩
  · have Nc1 := fun z => c1 ((lg_cmp_lt _ _).mpr z)
    refine v_lload_n (am_Dk d_jM_max1 (k := 4) rfl) rfl ?_
    refine v_goto (tgt := 11) (am_Dk d_jM_max1 (k := 5) rfl) (by decide) ?_
    exact v_lreturn (am_Dk d_jM_max1 (k := 7) rfl) rfl (by omega) (by omega) ⟨by rw [jmax, if_pos (Int64.not_lt.mp Nc1)], rfl, rfl⟩
set_option maxRecDepth 20000 in
theorem t_jM_floorMod (G : am_G) {d nx : Nat} (hd : 0 ≤ d) {M : am_M} {a b : Int64} (hb : ¬ b = 0) : am_Tr G m_jM_floorMod d 0 0 [.long a, .long b] M nx (fun r M1 nx1 => r = .inl (some (.long (jfm a b))) ∧ M1 = M ∧ nx1 = nx) := by
  refine am_TrOfF (by decide +kernel) (Nat.le_of_ble_eq_true rfl) ?_
  show am_V G _ _ _ _ _ 0 [(0, .long a), (2, .long b)] [] M nx 0 0
  refine v_lload_n (am_Dk d_jM_floorMod (k := 0) rfl) rfl ?_
  refine v_lload_n (am_Dk d_jM_floorMod (k := 1) rfl) rfl ?_
  refine v_lrem (am_Dk d_jM_floorMod (k := 2) rfl) (by assumption) ?_
  refine v_lstore (L1 := [(4, .long ((a) - (a) / (b) * (b))), (0, .long a), (2, .long b)]) (am_Dk d_jM_floorMod (k := 3) rfl) (by decide) rfl ?_
  refine v_lload_n (am_Dk d_jM_floorMod (k := 4) rfl) rfl ?_
  refine v_lload_n (am_Dk d_jM_floorMod (k := 5) rfl) rfl ?_
  refine v_lxor (am_Dk d_jM_floorMod (k := 6) rfl) ?_
  refine v_lconst (v := 0) (am_Dk d_jM_floorMod (k := 7) rfl) (by decide) ?_
  refine v_lcmp (am_Dk d_jM_floorMod (k := 8) rfl) ?_
  refine v_if_ge (tgt := 25) (am_Dk d_jM_floorMod (k := 9) rfl) (by decide) (fun c1 => ?_) (fun c1 => ?_)
  · have Nc1 := (lg_cmp_ge _ _).mp c1
    refine v_lload (am_Dk d_jM_floorMod (k := 18) rfl) rfl ?_
    exact v_lreturn (am_Dk d_jM_floorMod (k := 19) rfl) rfl (by omega) (by omega) ⟨by rw [jfm, if_neg (by first | exact fun z => absurd z.1 (Int64.not_lt.mpr Nc1) | exact fun z => absurd Nc2 z.2)], rfl, rfl⟩
  · have Nc1 := fun z => c1 ((lg_cmp_ge _ _).mpr z)
    refine v_lload (am_Dk d_jM_floorMod (k := 10) rfl) rfl ?_
    refine v_lconst (v := 0) (am_Dk d_jM_floorMod (k := 11) rfl) (by decide) ?_
    refine v_lcmp (am_Dk d_jM_floorMod (k := 12) rfl) ?_
    refine v_if_eq (tgt := 25) (am_Dk d_jM_floorMod (k := 13) rfl) (by decide) (fun c2 => ?_) (fun c2 => ?_)
    · have Nc2 := (lg_cmp_eq _ _).mp c2
      refine v_lload (am_Dk d_jM_floorMod (k := 18) rfl) rfl ?_
      exact v_lreturn (am_Dk d_jM_floorMod (k := 19) rfl) rfl (by omega) (by omega) ⟨by rw [jfm, if_neg (by first | exact fun z => absurd z.1 (Int64.not_lt.mpr Nc1) | exact fun z => absurd Nc2 z.2)], rfl, rfl⟩
    · have Nc2 := fun z => c2 ((lg_cmp_eq _ _).mpr z)
      refine v_lload (am_Dk d_jM_floorMod (k := 14) rfl) rfl ?_
      refine v_lload_n (am_Dk d_jM_floorMod (k := 15) rfl) rfl ?_
      refine v_ladd (am_Dk d_jM_floorMod (k := 16) rfl) ?_
      exact v_lreturn (am_Dk d_jM_floorMod (k := 17) rfl) rfl (by omega) (by omega) ⟨by rw [jfm, if_pos ⟨Int64.not_le.mp Nc1, Nc2⟩], rfl, rfl⟩
set_option maxRecDepth 20000 in
theorem t_Nm_isOfOne (G : am_G) {d nx : Nat} (hd : 0 ≤ d) {M : am_M} {k : Nat} (hk : k < 26) : am_Tr G m_Nm_isOfOne d 0 0 [.ref k] M nx (fun r M1 nx1 => r = .inl (some (.int (bi (oneK k)))) ∧ M1 = M ∧ nx1 = nx) := by
  refine am_TrOf (by decide) (Nat.le_of_ble_eq_true rfl) ?_
  show am_V G _ _ _ _ _ 0 [(0, .ref k)] [] M nx 0 0
  refine v_aload_n (am_Dk d_Nm_isOfOne (k := 0) rfl) rfl ?_
  refine v_gets (v := .ref 18) (am_Dk d_Nm_isOfOne (k := 1) rfl) s_Nm_58 (by decide +kernel) ?_
  refine v_acmp_eq (rx := (some k)) (ry := (some 18)) (tgt := 14) (am_Dk d_Nm_isOfOne (k := 2) rfl) rfl rfl (by decide) (en_N (by first | decide | omega) (by first | decide | omega)) (fun c1 => ?_) (fun c1 => ?_)
  · refine v_iconst (v := 1) (am_Dk d_Nm_isOfOne (k := 6) rfl) (by decide) ?_
    refine v_goto (tgt := 19) (am_Dk d_Nm_isOfOne (k := 7) rfl) (by decide) ?_
    exact v_ireturn (am_Dk d_Nm_isOfOne (k := 9) rfl) rfl rfl (by omega) (by omega) ⟨by rw [show oneK k = true from by simp_all [oneK, dvsK] <;> omega]; rfl, rfl, rfl⟩
  · refine v_aload_n (am_Dk d_Nm_isOfOne (k := 3) rfl) rfl ?_
    refine v_gets (v := .ref 23) (am_Dk d_Nm_isOfOne (k := 4) rfl) s_Nm_73 (by decide +kernel) ?_
    refine v_acmp_ne (rx := (some k)) (ry := (some 23)) (tgt := 18) (am_Dk d_Nm_isOfOne (k := 5) rfl) rfl rfl (by decide) (en_N (by first | decide | omega) (by first | decide | omega)) (fun c2 => ?_) (fun c2 => ?_)
    · refine v_iconst (v := 0) (am_Dk d_Nm_isOfOne (k := 8) rfl) (by decide) ?_
      exact v_ireturn (am_Dk d_Nm_isOfOne (k := 9) rfl) rfl rfl (by omega) (by omega) ⟨by rw [show oneK k = false from by simp_all [oneK, dvsK] <;> omega]; rfl, rfl, rfl⟩
    · refine v_iconst (v := 1) (am_Dk d_Nm_isOfOne (k := 6) rfl) (by decide) ?_
      refine v_goto (tgt := 19) (am_Dk d_Nm_isOfOne (k := 7) rfl) (by decide) ?_
      exact v_ireturn (am_Dk d_Nm_isOfOne (k := 9) rfl) rfl rfl (by omega) (by omega) ⟨by rw [show oneK k = true from by simp_all [oneK, dvsK] <;> omega]; rfl, rfl, rfl⟩
set_option maxRecDepth 20000 in
theorem t_Nm_divides (G : am_G) {d nx : Nat} (hd : 0 ≤ d) {M : am_M} {k : Nat} (hk : k < 26) : am_Tr G m_Nm_divides d 0 0 [.ref k] M nx (fun r M1 nx1 => r = .inl (some (.int (bi (dvsK k)))) ∧ M1 = M ∧ nx1 = nx) := by
  refine am_TrOf (by decide) (Nat.le_of_ble_eq_true rfl) ?_
  show am_V G _ _ _ _ _ 0 [(0, .ref k)] [] M nx 0 0
  refine v_aload_n (am_Dk d_Nm_divides (k := 0) rfl) rfl ?_
  refine v_gets (v := .ref 20) (am_Dk d_Nm_divides (k := 1) rfl) s_Nm_64 (by decide +kernel) ?_
  refine v_acmp_eq (rx := (some k)) (ry := (some 20)) (tgt := 21) (am_Dk d_Nm_divides (k := 2) rfl) rfl rfl (by decide) (en_N (by first | decide | omega) (by first | decide | omega)) (fun c1 => ?_) (fun c1 => ?_)
  · refine v_iconst (v := 1) (am_Dk d_Nm_divides (k := 9) rfl) (by decide) ?_
    refine v_goto (tgt := 26) (am_Dk d_Nm_divides (k := 10) rfl) (by decide) ?_
    exact v_ireturn (am_Dk d_Nm_divides (k := 12) rfl) rfl rfl (by omega) (by omega) ⟨by rw [show dvsK k = true from by simp_all [dvsK, dvsK] <;> omega]; rfl, rfl, rfl⟩
  · refine v_aload_n (am_Dk d_Nm_divides (k := 3) rfl) rfl ?_
    refine v_gets (v := .ref 21) (am_Dk d_Nm_divides (k := 4) rfl) s_Nm_67 (by decide +kernel) ?_
    refine v_acmp_eq (rx := (some k)) (ry := (some 21)) (tgt := 21) (am_Dk d_Nm_divides (k := 5) rfl) rfl rfl (by decide) (en_N (by first | decide | omega) (by first | decide | omega)) (fun c2 => ?_) (fun c2 => ?_)
    · refine v_iconst (v := 1) (am_Dk d_Nm_divides (k := 9) rfl) (by decide) ?_
      refine v_goto (tgt := 26) (am_Dk d_Nm_divides (k := 10) rfl) (by decide) ?_
      exact v_ireturn (am_Dk d_Nm_divides (k := 12) rfl) rfl rfl (by omega) (by omega) ⟨by rw [show dvsK k = true from by simp_all [dvsK, dvsK] <;> omega]; rfl, rfl, rfl⟩
    · refine v_aload_n (am_Dk d_Nm_divides (k := 6) rfl) rfl ?_
      refine v_gets (v := .ref 22) (am_Dk d_Nm_divides (k := 7) rfl) s_Nm_70 (by decide +kernel) ?_
      refine v_acmp_ne (rx := (some k)) (ry := (some 22)) (tgt := 25) (am_Dk d_Nm_divides (k := 8) rfl) rfl rfl (by decide) (en_N (by first | decide | omega) (by first | decide | omega)) (fun c3 => ?_) (fun c3 => ?_)
      · refine v_iconst (v := 0) (am_Dk d_Nm_divides (k := 11) rfl) (by decide) ?_
        exact v_ireturn (am_Dk d_Nm_divides (k := 12) rfl) rfl rfl (by omega) (by omega) ⟨by rw [show dvsK k = false from by simp_all [dvsK, dvsK] <;> omega]; rfl, rfl, rfl⟩
      · refine v_iconst (v := 1) (am_Dk d_Nm_divides (k := 9) rfl) (by decide) ?_
        refine v_goto (tgt := 26) (am_Dk d_Nm_divides (k := 10) rfl) (by decide) ?_
        exact v_ireturn (am_Dk d_Nm_divides (k := 12) rfl) rfl rfl (by omega) (by omega) ⟨by rw [show dvsK k = true from by simp_all [dvsK, dvsK] <;> omega]; rfl, rfl, rfl⟩
set_option maxRecDepth 20000 in
theorem t_Nm_isOfTwo (G : am_G) {d nx : Nat} (hd : 1 ≤ d) {M : am_M} {k : Nat} (hk : k < 26) : am_Tr G m_Nm_isOfTwo d 0 0 [.ref k] M nx (fun r M1 nx1 => r = .inl (some (.int (bi (twoK k)))) ∧ M1 = M ∧ nx1 = nx) := by
  refine am_TrOf (by decide) (Nat.le_of_ble_eq_true rfl) ?_
  show am_V G _ _ _ _ _ 0 [(0, .ref k)] [] M nx 0 0
  refine v_aload_n (am_Dk d_Nm_isOfTwo (k := 0) rfl) rfl ?_
  refine v_gets (v := .ref 17) (am_Dk d_Nm_isOfTwo (k := 1) rfl) s_Nm_55 (by decide +kernel) ?_
  refine v_acmp_eq (rx := (some k)) (ry := (some 17)) (tgt := 42) (am_Dk d_Nm_isOfTwo (k := 2) rfl) rfl rfl (by decide) (en_N (by first | decide | omega) (by first | decide | omega)) (fun c1 => ?_) (fun c1 => ?_)
  · refine v_iconst (v := 1) (am_Dk d_Nm_isOfTwo (k := 18) rfl) (by decide) ?_
    refine v_goto (tgt := 47) (am_Dk d_Nm_isOfTwo (k := 19) rfl) (by decide) ?_
    exact v_ireturn (am_Dk d_Nm_isOfTwo (k := 21) rfl) rfl rfl (by omega) (by omega) ⟨by rw [show twoK k = true from by simp_all [twoK, dvsK] <;> omega]; rfl, rfl, rfl⟩
  · refine v_aload_n (am_Dk d_Nm_isOfTwo (k := 3) rfl) rfl ?_
    refine v_gets (v := .ref 18) (am_Dk d_Nm_isOfTwo (k := 4) rfl) s_Nm_58 (by decide +kernel) ?_
    refine v_acmp_eq (rx := (some k)) (ry := (some 18)) (tgt := 42) (am_Dk d_Nm_isOfTwo (k := 5) rfl) rfl rfl (by decide) (en_N (by first | decide | omega) (by first | decide | omega)) (fun c2 => ?_) (fun c2 => ?_)
    · refine v_iconst (v := 1) (am_Dk d_Nm_isOfTwo (k := 18) rfl) (by decide) ?_
      refine v_goto (tgt := 47) (am_Dk d_Nm_isOfTwo (k := 19) rfl) (by decide) ?_
      exact v_ireturn (am_Dk d_Nm_isOfTwo (k := 21) rfl) rfl rfl (by omega) (by omega) ⟨by rw [show twoK k = true from by simp_all [twoK, dvsK] <;> omega]; rfl, rfl, rfl⟩
    · refine v_aload_n (am_Dk d_Nm_isOfTwo (k := 6) rfl) rfl ?_
      refine v_gets (v := .ref 19) (am_Dk d_Nm_isOfTwo (k := 7) rfl) s_Nm_61 (by decide +kernel) ?_
      refine v_acmp_eq (rx := (some k)) (ry := (some 19)) (tgt := 42) (am_Dk d_Nm_isOfTwo (k := 8) rfl) rfl rfl (by decide) (en_N (by first | decide | omega) (by first | decide | omega)) (fun c3 => ?_) (fun c3 => ?_)
      · refine v_iconst (v := 1) (am_Dk d_Nm_isOfTwo (k := 18) rfl) (by decide) ?_
        refine v_goto (tgt := 47) (am_Dk d_Nm_isOfTwo (k := 19) rfl) (by decide) ?_
        exact v_ireturn (am_Dk d_Nm_isOfTwo (k := 21) rfl) rfl rfl (by omega) (by omega) ⟨by rw [show twoK k = true from by simp_all [twoK, dvsK] <;> omega]; rfl, rfl, rfl⟩
      · refine v_aload_n (am_Dk d_Nm_isOfTwo (k := 9) rfl) rfl ?_
        refine v_callV (rest := []) (As := []) (mc' := 0) (ms' := 0) (am_Dk d_Nm_isOfTwo (k := 10) rfl) c_Nm_141 (Or.inr (kn_all k hk).1) (t_Nm_divides G (d := 0) (by omega) hk) (by omega) (by omega) (by omega) (by simp [Value.category]) rfl (fun v4 M5 n6 h7 => ?_) (fun _ _ _ h7 => ?_)
        rotate_left
        · exact absurd h7.1 (by simp)
        obtain ⟨h7, e8, e9⟩ := h7
        replace e8 := e8.symm
        replace e9 := e9.symm
        subst e8
        subst e9
        cases h7
        show am_V G _ _ _ _ _ 25 [(0, .ref k)] [.int (bi (dvsK k))] M nx 0 0
        refine v_if_ne (tgt := 42) (am_Dk d_Nm_isOfTwo (k := 11) rfl) (by decide) (fun c10 => ?_) (fun c10 => ?_)
        · have Nc10 := bi1 c10
          refine v_iconst (v := 1) (am_Dk d_Nm_isOfTwo (k := 18) rfl) (by decide) ?_
          refine v_goto (tgt := 47) (am_Dk d_Nm_isOfTwo (k := 19) rfl) (by decide) ?_
          exact v_ireturn (am_Dk d_Nm_isOfTwo (k := 21) rfl) rfl rfl (by omega) (by omega) ⟨by rw [show twoK k = true from by simp_all [twoK, dvsK] <;> omega]; rfl, rfl, rfl⟩
        · have Nc10 := bi0.mp c10
          refine v_aload_n (am_Dk d_Nm_isOfTwo (k := 12) rfl) rfl ?_
          refine v_gets (v := .ref 24) (am_Dk d_Nm_isOfTwo (k := 13) rfl) s_Nm_76 (by decide +kernel) ?_
          refine v_acmp_eq (rx := (some k)) (ry := (some 24)) (tgt := 42) (am_Dk d_Nm_isOfTwo (k := 14) rfl) rfl rfl (by decide) (en_N (by first | decide | omega) (by first | decide | omega)) (fun c11 => ?_) (fun c11 => ?_)
          · refine v_iconst (v := 1) (am_Dk d_Nm_isOfTwo (k := 18) rfl) (by decide) ?_
            refine v_goto (tgt := 47) (am_Dk d_Nm_isOfTwo (k := 19) rfl) (by decide) ?_
            exact v_ireturn (am_Dk d_Nm_isOfTwo (k := 21) rfl) rfl rfl (by omega) (by omega) ⟨by rw [show twoK k = true from by simp_all [twoK, dvsK] <;> omega]; rfl, rfl, rfl⟩
          · refine v_aload_n (am_Dk d_Nm_isOfTwo (k := 15) rfl) rfl ?_
            refine v_gets (v := .ref 25) (am_Dk d_Nm_isOfTwo (k := 16) rfl) s_Nm_79 (by decide +kernel) ?_
            refine v_acmp_ne (rx := (some k)) (ry := (some 25)) (tgt := 46) (am_Dk d_Nm_isOfTwo (k := 17) rfl) rfl rfl (by decide) (en_N (by first | decide | omega) (by first | decide | omega)) (fun c12 => ?_) (fun c12 => ?_)
            · refine v_iconst (v := 0) (am_Dk d_Nm_isOfTwo (k := 20) rfl) (by decide) ?_
              exact v_ireturn (am_Dk d_Nm_isOfTwo (k := 21) rfl) rfl rfl (by omega) (by omega) ⟨by rw [show twoK k = false from by simp_all [twoK, dvsK] <;> omega]; rfl, rfl, rfl⟩
            · refine v_iconst (v := 1) (am_Dk d_Nm_isOfTwo (k := 18) rfl) (by decide) ?_
              refine v_goto (tgt := 47) (am_Dk d_Nm_isOfTwo (k := 19) rfl) (by decide) ?_
              exact v_ireturn (am_Dk d_Nm_isOfTwo (k := 21) rfl) rfl rfl (by omega) (by omega) ⟨by rw [show twoK k = true from by simp_all [twoK, dvsK] <;> omega]; rfl, rfl, rfl⟩
set_option maxRecDepth 20000 in
theorem t_Nm_isComparison (G : am_G) {d nx : Nat} (hd : 0 ≤ d) {M : am_M} {k : Nat} (hk : k < 26) : am_Tr G m_Nm_isComparison d 0 0 [.ref k] M nx (fun r M1 nx1 => r = .inl (some (.int (bi (cmpK k)))) ∧ M1 = M ∧ nx1 = nx) := by
  refine am_TrOf (by decide) (Nat.le_of_ble_eq_true rfl) ?_
  show am_V G _ _ _ _ _ 0 [(0, .ref k)] [] M nx 0 0
  refine v_aload_n (am_Dk d_Nm_isComparison (k := 0) rfl) rfl ?_
  refine v_gets (v := .ref 11) (am_Dk d_Nm_isComparison (k := 1) rfl) s_Nm_37 (by decide +kernel) ?_
  refine v_acmp_eq (rx := (some k)) (ry := (some 11)) (tgt := 42) (am_Dk d_Nm_isComparison (k := 2) rfl) rfl rfl (by decide) (en_N (by first | decide | omega) (by first | decide | omega)) (fun c1 => ?_) (fun c1 => ?_)
  · refine v_iconst (v := 1) (am_Dk d_Nm_isComparison (k := 18) rfl) (by decide) ?_
    refine v_goto (tgt := 47) (am_Dk d_Nm_isComparison (k := 19) rfl) (by decide) ?_
    exact v_ireturn (am_Dk d_Nm_isComparison (k := 21) rfl) rfl rfl (by omega) (by omega) ⟨by rw [show cmpK k = true from by simp_all [cmpK, dvsK] <;> omega]; rfl, rfl, rfl⟩
  · refine v_aload_n (am_Dk d_Nm_isComparison (k := 3) rfl) rfl ?_
    refine v_gets (v := .ref 12) (am_Dk d_Nm_isComparison (k := 4) rfl) s_Nm_40 (by decide +kernel) ?_
    refine v_acmp_eq (rx := (some k)) (ry := (some 12)) (tgt := 42) (am_Dk d_Nm_isComparison (k := 5) rfl) rfl rfl (by decide) (en_N (by first | decide | omega) (by first | decide | omega)) (fun c2 => ?_) (fun c2 => ?_)
    · refine v_iconst (v := 1) (am_Dk d_Nm_isComparison (k := 18) rfl) (by decide) ?_
      refine v_goto (tgt := 47) (am_Dk d_Nm_isComparison (k := 19) rfl) (by decide) ?_
      exact v_ireturn (am_Dk d_Nm_isComparison (k := 21) rfl) rfl rfl (by omega) (by omega) ⟨by rw [show cmpK k = true from by simp_all [cmpK, dvsK] <;> omega]; rfl, rfl, rfl⟩
    · refine v_aload_n (am_Dk d_Nm_isComparison (k := 6) rfl) rfl ?_
      refine v_gets (v := .ref 13) (am_Dk d_Nm_isComparison (k := 7) rfl) s_Nm_43 (by decide +kernel) ?_
      refine v_acmp_eq (rx := (some k)) (ry := (some 13)) (tgt := 42) (am_Dk d_Nm_isComparison (k := 8) rfl) rfl rfl (by decide) (en_N (by first | decide | omega) (by first | decide | omega)) (fun c3 => ?_) (fun c3 => ?_)
      · refine v_iconst (v := 1) (am_Dk d_Nm_isComparison (k := 18) rfl) (by decide) ?_
        refine v_goto (tgt := 47) (am_Dk d_Nm_isComparison (k := 19) rfl) (by decide) ?_
        exact v_ireturn (am_Dk d_Nm_isComparison (k := 21) rfl) rfl rfl (by omega) (by omega) ⟨by rw [show cmpK k = true from by simp_all [cmpK, dvsK] <;> omega]; rfl, rfl, rfl⟩
      · refine v_aload_n (am_Dk d_Nm_isComparison (k := 9) rfl) rfl ?_
        refine v_gets (v := .ref 14) (am_Dk d_Nm_isComparison (k := 10) rfl) s_Nm_46 (by decide +kernel) ?_
        refine v_acmp_eq (rx := (some k)) (ry := (some 14)) (tgt := 42) (am_Dk d_Nm_isComparison (k := 11) rfl) rfl rfl (by decide) (en_N (by first | decide | omega) (by first | decide | omega)) (fun c4 => ?_) (fun c4 => ?_)
        · refine v_iconst (v := 1) (am_Dk d_Nm_isComparison (k := 18) rfl) (by decide) ?_
          refine v_goto (tgt := 47) (am_Dk d_Nm_isComparison (k := 19) rfl) (by decide) ?_
          exact v_ireturn (am_Dk d_Nm_isComparison (k := 21) rfl) rfl rfl (by omega) (by omega) ⟨by rw [show cmpK k = true from by simp_all [cmpK, dvsK] <;> omega]; rfl, rfl, rfl⟩
        · refine v_aload_n (am_Dk d_Nm_isComparison (k := 12) rfl) rfl ?_
          refine v_gets (v := .ref 15) (am_Dk d_Nm_isComparison (k := 13) rfl) s_Nm_49 (by decide +kernel) ?_
          refine v_acmp_eq (rx := (some k)) (ry := (some 15)) (tgt := 42) (am_Dk d_Nm_isComparison (k := 14) rfl) rfl rfl (by decide) (en_N (by first | decide | omega) (by first | decide | omega)) (fun c5 => ?_) (fun c5 => ?_)
          · refine v_iconst (v := 1) (am_Dk d_Nm_isComparison (k := 18) rfl) (by decide) ?_
            refine v_goto (tgt := 47) (am_Dk d_Nm_isComparison (k := 19) rfl) (by decide) ?_
            exact v_ireturn (am_Dk d_Nm_isComparison (k := 21) rfl) rfl rfl (by omega) (by omega) ⟨by rw [show cmpK k = true from by simp_all [cmpK, dvsK] <;> omega]; rfl, rfl, rfl⟩
          · refine v_aload_n (am_Dk d_Nm_isComparison (k := 15) rfl) rfl ?_
            refine v_gets (v := .ref 16) (am_Dk d_Nm_isComparison (k := 16) rfl) s_Nm_52 (by decide +kernel) ?_
            refine v_acmp_ne (rx := (some k)) (ry := (some 16)) (tgt := 46) (am_Dk d_Nm_isComparison (k := 17) rfl) rfl rfl (by decide) (en_N (by first | decide | omega) (by first | decide | omega)) (fun c6 => ?_) (fun c6 => ?_)
            · refine v_iconst (v := 0) (am_Dk d_Nm_isComparison (k := 20) rfl) (by decide) ?_
              exact v_ireturn (am_Dk d_Nm_isComparison (k := 21) rfl) rfl rfl (by omega) (by omega) ⟨by rw [show cmpK k = false from by simp_all [cmpK, dvsK] <;> omega]; rfl, rfl, rfl⟩
            · refine v_iconst (v := 1) (am_Dk d_Nm_isComparison (k := 18) rfl) (by decide) ?_
              refine v_goto (tgt := 47) (am_Dk d_Nm_isComparison (k := 19) rfl) (by decide) ?_
              exact v_ireturn (am_Dk d_Nm_isComparison (k := 21) rfl) rfl rfl (by omega) (by omega) ⟨by rw [show cmpK k = true from by simp_all [cmpK, dvsK] <;> omega]; rfl, rfl, rfl⟩
set_option maxRecDepth 20000 in
theorem t_Op_isProductTooGreat (G : am_G) {d nx : Nat} (hd : 1 ≤ d) {M : am_M} {a b : Int64} : am_Tr G m_Op_isProductTooGreat d 0 0 [.long a, .long b] M nx (fun r M1 nx1 => r = .inl (some (.int (bi (ptg a b)))) ∧ M1 = M ∧ nx1 = nx) := by
  refine am_TrOf (by decide) (Nat.le_of_ble_eq_true rfl) ?_
  show am_V G _ _ _ _ _ 0 [(0, .long a), (2, .long b)] [] M nx 0 0
  refine v_lload_n (am_Dk d_Op_isProductTooGreat (k := 0) rfl) rfl ?_
  refine v_lconst (v := 0) (am_Dk d_Op_isProductTooGreat (k := 1) rfl) (by decide) ?_
  refine v_lcmp (am_Dk d_Op_isProductTooGreat (k := 2) rfl) ?_
  refine v_if_eq (tgt := 26) (am_Dk d_Op_isProductTooGreat (k := 3) rfl) (by decide) (fun c1 => ?_) (fun c1 => ?_)
  · have Nc1 := (lg_cmp_eq _ _).mp c1
    refine v_iconst (v := 0) (am_Dk d_Op_isProductTooGreat (k := 14) rfl) (by decide) ?_
    exact v_ireturn (am_Dk d_Op_isProductTooGreat (k := 15) rfl) rfl rfl (by omega) (by omega) ⟨by rw [show ptg a b = false from decide_eq_false (by first | exact fun z => absurd Nc1 z.1 | exact fun z => absurd z.2 (Int64.not_lt.mpr (by assumption)))]; rfl, rfl, rfl⟩
  · have Nc1 := fun z => c1 ((lg_cmp_eq _ _).mpr z)
    refine v_lload_n (am_Dk d_Op_isProductTooGreat (k := 4) rfl) rfl ?_
    refine v_callS (rest := []) (As := [.long b]) (mc' := 0) (ms' := 0) (am_Dk d_Op_isProductTooGreat (k := 5) rfl) c_Op_43 (t_jM_abs G (d := 0) (by omega)) (by omega) (by omega) (by omega) (by simp [Value.category]) rfl (fun v2 M3 n4 h5 => ?_) (fun _ _ _ h5 => ?_)
    rotate_left
    · exact absurd h5.1 (by simp)
    obtain ⟨h5, e6, e7⟩ := h5
    replace e6 := e6.symm
    replace e7 := e7.symm
    subst e6
    subst e7
    cases h5
    show am_V G _ _ _ _ _ 10 [(0, .long a), (2, .long b)] [.long (jabs b)] M nx 0 0
    refine v_ldc2 (am_Dk d_Op_isProductTooGreat (k := 6) rfl) k_Op_25 ?_
    refine v_lload_n (am_Dk d_Op_isProductTooGreat (k := 7) rfl) rfl ?_
    refine v_callS (rest := [.long 9007199254740991, .long (jabs b)]) (As := [.long a]) (mc' := 0) (ms' := 0) (am_Dk d_Op_isProductTooGreat (k := 8) rfl) c_Op_43 (t_jM_abs G (d := 0) (by omega)) (by omega) (by omega) (by omega) (by simp [Value.category]) rfl (fun v8 M9 n10 h11 => ?_) (fun _ _ _ h11 => ?_)
    rotate_left
    · exact absurd h11.1 (by simp)
    obtain ⟨h11, e12, e13⟩ := h11
    replace e12 := e12.symm
    replace e13 := e13.symm
    subst e12
    subst e13
    cases h11
    show am_V G _ _ _ _ _ 17 [(0, .long a), (2, .long b)] [.long (jabs a), .long 9007199254740991, .long (jabs b)] M nx 0 0
    refine v_ldiv (am_Dk d_Op_isProductTooGreat (k := 9) rfl) (jabs_ne (by assumption)) ?_
    refine v_lcmp (am_Dk d_Op_isProductTooGreat (k := 10) rfl) ?_
    refine v_if_le (tgt := 26) (am_Dk d_Op_isProductTooGreat (k := 11) rfl) (by decide) (fun c14 => ?_) (fun c14 => ?_)
    · have Nc14 := (lg_cmp_le _ _).mp c14
      refine v_iconst (v := 0) (am_Dk d_Op_isProductTooGreat (k := 14) rfl) (by decide) ?_
      exact v_ireturn (am_Dk d_Op_isProductTooGreat (k := 15) rfl) rfl rfl (by omega) (by omega) ⟨by rw [show ptg a b = false from decide_eq_false (by first | exact fun z => absurd Nc1 z.1 | exact fun z => absurd z.2 (Int64.not_lt.mpr (by assumption)))]; rfl, rfl, rfl⟩
    · have Nc14 := fun z => c14 ((lg_cmp_le _ _).mpr z)
      refine v_iconst (v := 1) (am_Dk d_Op_isProductTooGreat (k := 12) rfl) (by decide) ?_
      refine v_goto (tgt := 27) (am_Dk d_Op_isProductTooGreat (k := 13) rfl) (by decide) ?_
      exact v_ireturn (am_Dk d_Op_isProductTooGreat (k := 15) rfl) rfl rfl (by omega) (by omega) ⟨by rw [show ptg a b = true from decide_eq_true ⟨Nc1, Int64.not_le.mp (by assumption)⟩]; rfl, rfl, rfl⟩
set_option maxRecDepth 20000 in
theorem t_Nm_resultOf_17 (G : am_G) {d nx : Nat} (hd : 1 ≤ d) {M : am_M} {a b : Int64} : am_Tr G m_Nm_resultOf d 0 0 [.ref 17, .long a, .long b] M nx (fun r M1 nx1 => r = .inl (some (.long (resK 17 a b))) ∧ M1 = M ∧ nx1 = nx) := by
  refine am_TrOf (by decide) (Nat.le_of_ble_eq_true rfl) ?_
  show am_V G _ _ _ _ _ 0 [(0, .ref 17), (1, .long a), (3, .long b)] [] M nx 0 0
  refine v_gets (v := .ref 51) (am_Dk d_Nm_resultOf (k := 0) rfl) s_Nm_145 (by decide +kernel) ?_
  refine v_aload_n (am_Dk d_Nm_resultOf (k := 1) rfl) rfl ?_
  refine v_callU (rest := [.ref 51]) (As := []) (mc' := 0) (ms' := 0) (am_Dk d_Nm_resultOf (k := 2) rfl) c_Nm_151 (Or.inr (by decide +kernel)) (t_jE_ordinal G (d := 0) (k := 17) (v := 17) (by omega) (en_oN 17 (by decide))) (by omega) (by omega) (by omega) (by simp [Value.category]) rfl (fun v1 M2 n3 h4 => ?_) (fun _ _ _ h4 => ?_)
  rotate_left
  · exact absurd h4.1 (by simp)
  obtain ⟨h4, e5, e6⟩ := h4
  replace e5 := e5.symm
  replace e6 := e6.symm
  subst e5
  subst e6
  cases h4
  show am_V G _ _ _ _ _ 7 [(0, .ref 17), (1, .long a), (3, .long b)] [.int 17, .ref 51] M nx 0 0
  refine v_tiald (v := .int 6) (am_Dk d_Nm_resultOf (k := 3) rfl) (List.mem_of_getElem? (i := 1) rfl) (show ¬ (_ ∨ _) from by decide) (by decide) ?_
  refine v_tableIn (tgt := 52) (off := 44) (am_Dk d_Nm_resultOf (k := 4) rfl) (by decide) (by decide) (by decide) (by decide) ?_
  refine v_lload_n (am_Dk d_Nm_resultOf (k := 5) rfl) rfl ?_
  refine v_lload_n (am_Dk d_Nm_resultOf (k := 6) rfl) rfl ?_
  refine v_ladd (am_Dk d_Nm_resultOf (k := 7) rfl) ?_
  exact v_lreturn (am_Dk d_Nm_resultOf (k := 8) rfl) rfl (by omega) (by omega) ⟨by first | (simp [resK, *]; done) | (simp [resK, *]; intro z; exact absurd z (by assumption)), rfl, rfl⟩
set_option maxRecDepth 20000 in
theorem t_Nm_resultOf_18 (G : am_G) {d nx : Nat} (hd : 1 ≤ d) {M : am_M} {a b : Int64} : am_Tr G m_Nm_resultOf d 0 0 [.ref 18, .long a, .long b] M nx (fun r M1 nx1 => r = .inl (some (.long (resK 18 a b))) ∧ M1 = M ∧ nx1 = nx) := by
  refine am_TrOf (by decide) (Nat.le_of_ble_eq_true rfl) ?_
  show am_V G _ _ _ _ _ 0 [(0, .ref 18), (1, .long a), (3, .long b)] [] M nx 0 0
  refine v_gets (v := .ref 51) (am_Dk d_Nm_resultOf (k := 0) rfl) s_Nm_145 (by decide +kernel) ?_
  refine v_aload_n (am_Dk d_Nm_resultOf (k := 1) rfl) rfl ?_
  refine v_callU (rest := [.ref 51]) (As := []) (mc' := 0) (ms' := 0) (am_Dk d_Nm_resultOf (k := 2) rfl) c_Nm_151 (Or.inr (by decide +kernel)) (t_jE_ordinal G (d := 0) (k := 18) (v := 18) (by omega) (en_oN 18 (by decide))) (by omega) (by omega) (by omega) (by simp [Value.category]) rfl (fun v1 M2 n3 h4 => ?_) (fun _ _ _ h4 => ?_)
  rotate_left
  · exact absurd h4.1 (by simp)
  obtain ⟨h4, e5, e6⟩ := h4
  replace e5 := e5.symm
  replace e6 := e6.symm
  subst e5
  subst e6
  cases h4
  show am_V G _ _ _ _ _ 7 [(0, .ref 18), (1, .long a), (3, .long b)] [.int 18, .ref 51] M nx 0 0
  refine v_tiald (v := .int 7) (am_Dk d_Nm_resultOf (k := 3) rfl) (List.mem_of_getElem? (i := 1) rfl) (show ¬ (_ ∨ _) from by decide) (by decide) ?_
  refine v_tableIn (tgt := 56) (off := 48) (am_Dk d_Nm_resultOf (k := 4) rfl) (by decide) (by decide) (by decide) (by decide) ?_
  refine v_lload_n (am_Dk d_Nm_resultOf (k := 9) rfl) rfl ?_
  refine v_lload_n (am_Dk d_Nm_resultOf (k := 10) rfl) rfl ?_
  refine v_lsub (am_Dk d_Nm_resultOf (k := 11) rfl) ?_
  exact v_lreturn (am_Dk d_Nm_resultOf (k := 12) rfl) rfl (by omega) (by omega) ⟨by first | (simp [resK, *]; done) | (simp [resK, *]; intro z; exact absurd z (by assumption)), rfl, rfl⟩
set_option maxRecDepth 20000 in
theorem t_Nm_resultOf_19 (G : am_G) {d nx : Nat} (hd : 1 ≤ d) {M : am_M} {a b : Int64} : am_Tr G m_Nm_resultOf d 0 0 [.ref 19, .long a, .long b] M nx (fun r M1 nx1 => r = .inl (some (.long (resK 19 a b))) ∧ M1 = M ∧ nx1 = nx) := by
  refine am_TrOf (by decide) (Nat.le_of_ble_eq_true rfl) ?_
  show am_V G _ _ _ _ _ 0 [(0, .ref 19), (1, .long a), (3, .long b)] [] M nx 0 0
  refine v_gets (v := .ref 51) (am_Dk d_Nm_resultOf (k := 0) rfl) s_Nm_145 (by decide +kernel) ?_
  refine v_aload_n (am_Dk d_Nm_resultOf (k := 1) rfl) rfl ?_
  refine v_callU (rest := [.ref 51]) (As := []) (mc' := 0) (ms' := 0) (am_Dk d_Nm_resultOf (k := 2) rfl) c_Nm_151 (Or.inr (by decide +kernel)) (t_jE_ordinal G (d := 0) (k := 19) (v := 19) (by omega) (en_oN 19 (by decide))) (by omega) (by omega) (by omega) (by simp [Value.category]) rfl (fun v1 M2 n3 h4 => ?_) (fun _ _ _ h4 => ?_)
  rotate_left
  · exact absurd h4.1 (by simp)
  obtain ⟨h4, e5, e6⟩ := h4
  replace e5 := e5.symm
  replace e6 := e6.symm
  subst e5
  subst e6
  cases h4
  show am_V G _ _ _ _ _ 7 [(0, .ref 19), (1, .long a), (3, .long b)] [.int 19, .ref 51] M nx 0 0
  refine v_tiald (v := .int 8) (am_Dk d_Nm_resultOf (k := 3) rfl) (List.mem_of_getElem? (i := 1) rfl) (show ¬ (_ ∨ _) from by decide) (by decide) ?_
  refine v_tableIn (tgt := 60) (off := 52) (am_Dk d_Nm_resultOf (k := 4) rfl) (by decide) (by decide) (by decide) (by decide) ?_
  refine v_lload_n (am_Dk d_Nm_resultOf (k := 13) rfl) rfl ?_
  refine v_lload_n (am_Dk d_Nm_resultOf (k := 14) rfl) rfl ?_
  refine v_lmul (am_Dk d_Nm_resultOf (k := 15) rfl) ?_
  exact v_lreturn (am_Dk d_Nm_resultOf (k := 16) rfl) rfl (by omega) (by omega) ⟨by first | (simp [resK, *]; done) | (simp [resK, *]; intro z; exact absurd z (by assumption)), rfl, rfl⟩
set_option maxRecDepth 20000 in
theorem t_Nm_resultOf_20 (G : am_G) {d nx : Nat} (hd : 1 ≤ d) {M : am_M} {a b : Int64} : am_Tr G m_Nm_resultOf d 0 0 [.ref 20, .long a, .long b] M nx (fun r M1 nx1 => r = .inl (some (.long (resK 20 a b))) ∧ M1 = M ∧ nx1 = nx) := by
  refine am_TrOf (by decide) (Nat.le_of_ble_eq_true rfl) ?_
  show am_V G _ _ _ _ _ 0 [(0, .ref 20), (1, .long a), (3, .long b)] [] M nx 0 0
  refine v_gets (v := .ref 51) (am_Dk d_Nm_resultOf (k := 0) rfl) s_Nm_145 (by decide +kernel) ?_
  refine v_aload_n (am_Dk d_Nm_resultOf (k := 1) rfl) rfl ?_
  refine v_callU (rest := [.ref 51]) (As := []) (mc' := 0) (ms' := 0) (am_Dk d_Nm_resultOf (k := 2) rfl) c_Nm_151 (Or.inr (by decide +kernel)) (t_jE_ordinal G (d := 0) (k := 20) (v := 20) (by omega) (en_oN 20 (by decide))) (by omega) (by omega) (by omega) (by simp [Value.category]) rfl (fun v1 M2 n3 h4 => ?_) (fun _ _ _ h4 => ?_)
  rotate_left
  · exact absurd h4.1 (by simp)
  obtain ⟨h4, e5, e6⟩ := h4
  replace e5 := e5.symm
  replace e6 := e6.symm
  subst e5
  subst e6
  cases h4
  show am_V G _ _ _ _ _ 7 [(0, .ref 20), (1, .long a), (3, .long b)] [.int 20, .ref 51] M nx 0 0
  refine v_tiald (v := .int 9) (am_Dk d_Nm_resultOf (k := 3) rfl) (List.mem_of_getElem? (i := 1) rfl) (show ¬ (_ ∨ _) from by decide) (by decide) ?_
  refine v_tableIn (tgt := 64) (off := 56) (am_Dk d_Nm_resultOf (k := 4) rfl) (by decide) (by decide) (by decide) (by decide) ?_
  refine v_lload_n (am_Dk d_Nm_resultOf (k := 17) rfl) rfl ?_
  refine v_lconst (v := 0) (am_Dk d_Nm_resultOf (k := 18) rfl) (by decide) ?_
  refine v_lcmp (am_Dk d_Nm_resultOf (k := 19) rfl) ?_
  refine v_if_ne (tgt := 74) (am_Dk d_Nm_resultOf (k := 20) rfl) (by decide) (fun c7 => ?_) (fun c7 => ?_)
  · have Nc7 := fun z => c7 ((lg_cmp_eq _ _).mpr z)
    refine v_lload_n (am_Dk d_Nm_resultOf (k := 23) rfl) rfl ?_
    refine v_lload_n (am_Dk d_Nm_resultOf (k := 24) rfl) rfl ?_
    refine v_ldiv (am_Dk d_Nm_resultOf (k := 25) rfl) (by assumption) ?_
    exact v_lreturn (am_Dk d_Nm_resultOf (k := 26) rfl) rfl (by omega) (by omega) ⟨by first | (simp [resK, *]; done) | (simp [resK, *]; intro z; exact absurd z (by assumption)), rfl, rfl⟩
  · have Nc7 := (lg_cmp_eq _ _).mp c7
    refine v_lconst (v := 0) (am_Dk d_Nm_resultOf (k := 21) rfl) (by decide) ?_
    refine v_goto (tgt := 77) (am_Dk d_Nm_resultOf (k := 22) rfl) (by decide) ?_
    exact v_lreturn (am_Dk d_Nm_resultOf (k := 26) rfl) rfl (by omega) (by omega) ⟨by first | (simp [resK, *]; done) | (simp [resK, *]; intro z; exact absurd z (by assumption)), rfl, rfl⟩
set_option maxRecDepth 20000 in
theorem t_Nm_resultOf_21 (G : am_G) {d nx : Nat} (hd : 1 ≤ d) {M : am_M} {a b : Int64} : am_Tr G m_Nm_resultOf d 0 0 [.ref 21, .long a, .long b] M nx (fun r M1 nx1 => r = .inl (some (.long (resK 21 a b))) ∧ M1 = M ∧ nx1 = nx) := by
  refine am_TrOf (by decide) (Nat.le_of_ble_eq_true rfl) ?_
  show am_V G _ _ _ _ _ 0 [(0, .ref 21), (1, .long a), (3, .long b)] [] M nx 0 0
  refine v_gets (v := .ref 51) (am_Dk d_Nm_resultOf (k := 0) rfl) s_Nm_145 (by decide +kernel) ?_
  refine v_aload_n (am_Dk d_Nm_resultOf (k := 1) rfl) rfl ?_
  refine v_callU (rest := [.ref 51]) (As := []) (mc' := 0) (ms' := 0) (am_Dk d_Nm_resultOf (k := 2) rfl) c_Nm_151 (Or.inr (by decide +kernel)) (t_jE_ordinal G (d := 0) (k := 21) (v := 21) (by omega) (en_oN 21 (by decide))) (by omega) (by omega) (by omega) (by simp [Value.category]) rfl (fun v1 M2 n3 h4 => ?_) (fun _ _ _ h4 => ?_)
  rotate_left
  · exact absurd h4.1 (by simp)
  obtain ⟨h4, e5, e6⟩ := h4
  replace e5 := e5.symm
  replace e6 := e6.symm
  subst e5
  subst e6
  cases h4
  show am_V G _ _ _ _ _ 7 [(0, .ref 21), (1, .long a), (3, .long b)] [.int 21, .ref 51] M nx 0 0
  refine v_tiald (v := .int 10) (am_Dk d_Nm_resultOf (k := 3) rfl) (List.mem_of_getElem? (i := 1) rfl) (show ¬ (_ ∨ _) from by decide) (by decide) ?_
  refine v_tableIn (tgt := 78) (off := 70) (am_Dk d_Nm_resultOf (k := 4) rfl) (by decide) (by decide) (by decide) (by decide) ?_
  refine v_lload_n (am_Dk d_Nm_resultOf (k := 27) rfl) rfl ?_
  refine v_lconst (v := 0) (am_Dk d_Nm_resultOf (k := 28) rfl) (by decide) ?_
  refine v_lcmp (am_Dk d_Nm_resultOf (k := 29) rfl) ?_
  refine v_if_ne (tgt := 88) (am_Dk d_Nm_resultOf (k := 30) rfl) (by decide) (fun c7 => ?_) (fun c7 => ?_)
  · have Nc7 := fun z => c7 ((lg_cmp_eq _ _).mpr z)
    refine v_lload_n (am_Dk d_Nm_resultOf (k := 33) rfl) rfl ?_
    refine v_lload_n (am_Dk d_Nm_resultOf (k := 34) rfl) rfl ?_
    refine v_callS (rest := []) (As := [.long a, .long b]) (mc' := 0) (ms' := 0) (am_Dk d_Nm_resultOf (k := 35) rfl) c_Nm_154 (t_jM_floorMod G (d := 0) (by omega) (by assumption)) (by omega) (by omega) (by omega) (by simp [Value.category]) rfl (fun v8 M9 n10 h11 => ?_) (fun _ _ _ h11 => ?_)
    rotate_left
    · exact absurd h11.1 (by simp)
    obtain ⟨h11, e12, e13⟩ := h11
    replace e12 := e12.symm
    replace e13 := e13.symm
    subst e12
    subst e13
    cases h11
    show am_V G _ _ _ _ _ 93 [(0, .ref 21), (1, .long a), (3, .long b)] [.long (jfm a b)] M nx 0 0
    exact v_lreturn (am_Dk d_Nm_resultOf (k := 36) rfl) rfl (by omega) (by omega) ⟨by first | (simp [resK, *]; done) | (simp [resK, *]; intro z; exact absurd z (by assumption)), rfl, rfl⟩
  · have Nc7 := (lg_cmp_eq _ _).mp c7
    refine v_lconst (v := 0) (am_Dk d_Nm_resultOf (k := 31) rfl) (by decide) ?_
    refine v_goto (tgt := 93) (am_Dk d_Nm_resultOf (k := 32) rfl) (by decide) ?_
    exact v_lreturn (am_Dk d_Nm_resultOf (k := 36) rfl) rfl (by omega) (by omega) ⟨by first | (simp [resK, *]; done) | (simp [resK, *]; intro z; exact absurd z (by assumption)), rfl, rfl⟩
set_option maxRecDepth 20000 in
theorem t_Nm_resultOf_22 (G : am_G) {d nx : Nat} (hd : 1 ≤ d) {M : am_M} {a b : Int64} : am_Tr G m_Nm_resultOf d 0 0 [.ref 22, .long a, .long b] M nx (fun r M1 nx1 => r = .inl (some (.long (resK 22 a b))) ∧ M1 = M ∧ nx1 = nx) := by
  refine am_TrOf (by decide) (Nat.le_of_ble_eq_true rfl) ?_
  show am_V G _ _ _ _ _ 0 [(0, .ref 22), (1, .long a), (3, .long b)] [] M nx 0 0
  refine v_gets (v := .ref 51) (am_Dk d_Nm_resultOf (k := 0) rfl) s_Nm_145 (by decide +kernel) ?_
  refine v_aload_n (am_Dk d_Nm_resultOf (k := 1) rfl) rfl ?_
  refine v_callU (rest := [.ref 51]) (As := []) (mc' := 0) (ms' := 0) (am_Dk d_Nm_resultOf (k := 2) rfl) c_Nm_151 (Or.inr (by decide +kernel)) (t_jE_ordinal G (d := 0) (k := 22) (v := 22) (by omega) (en_oN 22 (by decide))) (by omega) (by omega) (by omega) (by simp [Value.category]) rfl (fun v1 M2 n3 h4 => ?_) (fun _ _ _ h4 => ?_)
  rotate_left
  · exact absurd h4.1 (by simp)
  obtain ⟨h4, e5, e6⟩ := h4
  replace e5 := e5.symm
  replace e6 := e6.symm
  subst e5
  subst e6
  cases h4
  show am_V G _ _ _ _ _ 7 [(0, .ref 22), (1, .long a), (3, .long b)] [.int 22, .ref 51] M nx 0 0
  refine v_tiald (v := .int 11) (am_Dk d_Nm_resultOf (k := 3) rfl) (List.mem_of_getElem? (i := 1) rfl) (show ¬ (_ ∨ _) from by decide) (by decide) ?_
  refine v_tableIn (tgt := 94) (off := 86) (am_Dk d_Nm_resultOf (k := 4) rfl) (by decide) (by decide) (by decide) (by decide) ?_
  refine v_lload_n (am_Dk d_Nm_resultOf (k := 37) rfl) rfl ?_
  refine v_lconst (v := 0) (am_Dk d_Nm_resultOf (k := 38) rfl) (by decide) ?_
  refine v_lcmp (am_Dk d_Nm_resultOf (k := 39) rfl) ?_
  refine v_if_ne (tgt := 104) (am_Dk d_Nm_resultOf (k := 40) rfl) (by decide) (fun c7 => ?_) (fun c7 => ?_)
  · have Nc7 := fun z => c7 ((lg_cmp_eq _ _).mpr z)
    refine v_lload_n (am_Dk d_Nm_resultOf (k := 43) rfl) rfl ?_
    refine v_lload_n (am_Dk d_Nm_resultOf (k := 44) rfl) rfl ?_
    refine v_lrem (am_Dk d_Nm_resultOf (k := 45) rfl) (by assumption) ?_
    exact v_lreturn (am_Dk d_Nm_resultOf (k := 46) rfl) rfl (by omega) (by omega) ⟨by first | (simp [resK, *]; done) | (simp [resK, *]; intro z; exact absurd z (by assumption)), rfl, rfl⟩
  · have Nc7 := (lg_cmp_eq _ _).mp c7
    refine v_lconst (v := 0) (am_Dk d_Nm_resultOf (k := 41) rfl) (by decide) ?_
    refine v_goto (tgt := 107) (am_Dk d_Nm_resultOf (k := 42) rfl) (by decide) ?_
    exact v_lreturn (am_Dk d_Nm_resultOf (k := 46) rfl) rfl (by omega) (by omega) ⟨by first | (simp [resK, *]; done) | (simp [resK, *]; intro z; exact absurd z (by assumption)), rfl, rfl⟩
set_option maxRecDepth 20000 in
theorem t_Nm_resultOf_24 (G : am_G) {d nx : Nat} (hd : 1 ≤ d) {M : am_M} {a b : Int64} : am_Tr G m_Nm_resultOf d 0 0 [.ref 24, .long a, .long b] M nx (fun r M1 nx1 => r = .inl (some (.long (resK 24 a b))) ∧ M1 = M ∧ nx1 = nx) := by
  refine am_TrOf (by decide) (Nat.le_of_ble_eq_true rfl) ?_
  show am_V G _ _ _ _ _ 0 [(0, .ref 24), (1, .long a), (3, .long b)] [] M nx 0 0
  refine v_gets (v := .ref 51) (am_Dk d_Nm_resultOf (k := 0) rfl) s_Nm_145 (by decide +kernel) ?_
  refine v_aload_n (am_Dk d_Nm_resultOf (k := 1) rfl) rfl ?_
  refine v_callU (rest := [.ref 51]) (As := []) (mc' := 0) (ms' := 0) (am_Dk d_Nm_resultOf (k := 2) rfl) c_Nm_151 (Or.inr (by decide +kernel)) (t_jE_ordinal G (d := 0) (k := 24) (v := 24) (by omega) (en_oN 24 (by decide))) (by omega) (by omega) (by omega) (by simp [Value.category]) rfl (fun v1 M2 n3 h4 => ?_) (fun _ _ _ h4 => ?_)
  rotate_left
  · exact absurd h4.1 (by simp)
  obtain ⟨h4, e5, e6⟩ := h4
  replace e5 := e5.symm
  replace e6 := e6.symm
  subst e5
  subst e6
  cases h4
  show am_V G _ _ _ _ _ 7 [(0, .ref 24), (1, .long a), (3, .long b)] [.int 24, .ref 51] M nx 0 0
  refine v_tiald (v := .int 12) (am_Dk d_Nm_resultOf (k := 3) rfl) (List.mem_of_getElem? (i := 1) rfl) (show ¬ (_ ∨ _) from by decide) (by decide) ?_
  refine v_tableIn (tgt := 108) (off := 100) (am_Dk d_Nm_resultOf (k := 4) rfl) (by decide) (by decide) (by decide) (by decide) ?_
  refine v_lload_n (am_Dk d_Nm_resultOf (k := 47) rfl) rfl ?_
  refine v_lload_n (am_Dk d_Nm_resultOf (k := 48) rfl) rfl ?_
  refine v_callS (rest := []) (As := [.long a, .long b]) (mc' := 0) (ms' := 0) (am_Dk d_Nm_resultOf (k := 49) rfl) c_Nm_160 (t_jM_min1 G (d := 0) (by omega)) (by omega) (by omega) (by omega) (by simp [Value.category]) rfl (fun v7 M8 n9 h10 => ?_) (fun _ _ _ h10 => ?_)
  rotate_left
  · exact absurd h10.1 (by simp)
  obtain ⟨h10, e11, e12⟩ := h10
  replace e11 := e11.symm
  replace e12 := e12.symm
  subst e11
  subst e12
  cases h10
  show am_V G _ _ _ _ _ 113 [(0, .ref 24), (1, .long a), (3, .long b)] [.long (jmin a b)] M nx 0 0
  exact v_lreturn (am_Dk d_Nm_resultOf (k := 50) rfl) rfl (by omega) (by omega) ⟨by first | (simp [resK, *]; done) | (simp [resK, *]; intro z; exact absurd z (by assumption)), rfl, rfl⟩
set_option maxRecDepth 20000 in
theorem t_Nm_resultOf_25 (G : am_G) {d nx : Nat} (hd : 1 ≤ d) {M : am_M} {a b : Int64} : am_Tr G m_Nm_resultOf d 0 0 [.ref 25, .long a, .long b] M nx (fun r M1 nx1 => r = .inl (some (.long (resK 25 a b))) ∧ M1 = M ∧ nx1 = nx) := by
  refine am_TrOf (by decide) (Nat.le_of_ble_eq_true rfl) ?_
  show am_V G _ _ _ _ _ 0 [(0, .ref 25), (1, .long a), (3, .long b)] [] M nx 0 0
  refine v_gets (v := .ref 51) (am_Dk d_Nm_resultOf (k := 0) rfl) s_Nm_145 (by decide +kernel) ?_
  refine v_aload_n (am_Dk d_Nm_resultOf (k := 1) rfl) rfl ?_
  refine v_callU (rest := [.ref 51]) (As := []) (mc' := 0) (ms' := 0) (am_Dk d_Nm_resultOf (k := 2) rfl) c_Nm_151 (Or.inr (by decide +kernel)) (t_jE_ordinal G (d := 0) (k := 25) (v := 25) (by omega) (en_oN 25 (by decide))) (by omega) (by omega) (by omega) (by simp [Value.category]) rfl (fun v1 M2 n3 h4 => ?_) (fun _ _ _ h4 => ?_)
  rotate_left
  · exact absurd h4.1 (by simp)
  obtain ⟨h4, e5, e6⟩ := h4
  replace e5 := e5.symm
  replace e6 := e6.symm
  subst e5
  subst e6
  cases h4
  show am_V G _ _ _ _ _ 7 [(0, .ref 25), (1, .long a), (3, .long b)] [.int 25, .ref 51] M nx 0 0
  refine v_tiald (v := .int 0) (am_Dk d_Nm_resultOf (k := 3) rfl) (List.mem_of_getElem? (i := 1) rfl) (show ¬ (_ ∨ _) from by decide) (by decide) ?_
  refine v_tableOut (tgt := 114) (am_Dk d_Nm_resultOf (k := 4) rfl) (by decide) (by decide) ?_
  refine v_lload_n (am_Dk d_Nm_resultOf (k := 51) rfl) rfl ?_
  refine v_lload_n (am_Dk d_Nm_resultOf (k := 52) rfl) rfl ?_
  refine v_callS (rest := []) (As := [.long a, .long b]) (mc' := 0) (ms' := 0) (am_Dk d_Nm_resultOf (k := 53) rfl) c_Nm_163 (t_jM_max1 G (d := 0) (by omega)) (by omega) (by omega) (by omega) (by simp [Value.category]) rfl (fun v7 M8 n9 h10 => ?_) (fun _ _ _ h10 => ?_)
  rotate_left
  · exact absurd h10.1 (by simp)
  obtain ⟨h10, e11, e12⟩ := h10
  replace e11 := e11.symm
  replace e12 := e12.symm
  subst e11
  subst e12
  cases h10
  show am_V G _ _ _ _ _ 119 [(0, .ref 25), (1, .long a), (3, .long b)] [.long (jmax a b)] M nx 0 0
  exact v_lreturn (am_Dk d_Nm_resultOf (k := 54) rfl) rfl (by omega) (by omega) ⟨by first | (simp [resK, *]; done) | (simp [resK, *]; intro z; exact absurd z (by assumption)), rfl, rfl⟩
theorem t_Nm_resultOf (G : am_G) {d nx : Nat} (hd : 1 ≤ d) {M : am_M} {k : Nat} {a b : Int64} (h : twoK k = true) : am_Tr G m_Nm_resultOf d 0 0 [.ref k, .long a, .long b] M nx (fun r M1 nx1 => r = .inl (some (.long (resK k a b))) ∧ M1 = M ∧ nx1 = nx) := by
  rcases of_decide_eq_true h with rfl | rfl | rfl | rfl | rfl | rfl | rfl | rfl
  · exact t_Nm_resultOf_17 G hd
  · exact t_Nm_resultOf_18 G hd
  · exact t_Nm_resultOf_19 G hd
  · exact t_Nm_resultOf_20 G hd
  · exact t_Nm_resultOf_21 G hd
  · exact t_Nm_resultOf_22 G hd
  · exact t_Nm_resultOf_24 G hd
  · exact t_Nm_resultOf_25 G hd
set_option maxRecDepth 20000 in
theorem t_Nm_isTrueOf_11 (G : am_G) {d nx : Nat} (hd : 1 ≤ d) {M : am_M} {a b : Int64} : am_Tr G m_Nm_isTrueOf d 0 0 [.ref 11, .long a, .long b] M nx (fun r M1 nx1 => r = .inl (some (.int (bi (truK 11 a b)))) ∧ M1 = M ∧ nx1 = nx) := by
  refine am_TrOf (by decide) (Nat.le_of_ble_eq_true rfl) ?_
  show am_V G _ _ _ _ _ 0 [(0, .ref 11), (1, .long a), (3, .long b)] [] M nx 0 0
  refine v_gets (v := .ref 51) (am_Dk d_Nm_isTrueOf (k := 0) rfl) s_Nm_145 (by decide +kernel) ?_
  refine v_aload_n (am_Dk d_Nm_isTrueOf (k := 1) rfl) rfl ?_
  refine v_callU (rest := [.ref 51]) (As := []) (mc' := 0) (ms' := 0) (am_Dk d_Nm_isTrueOf (k := 2) rfl) c_Nm_151 (Or.inr (by decide +kernel)) (t_jE_ordinal G (d := 0) (k := 11) (v := 11) (by omega) (en_oN 11 (by decide))) (by omega) (by omega) (by omega) (by simp [Value.category]) rfl (fun v1 M2 n3 h4 => ?_) (fun _ _ _ h4 => ?_)
  rotate_left
  · exact absurd h4.1 (by simp)
  obtain ⟨h4, e5, e6⟩ := h4
  replace e5 := e5.symm
  replace e6 := e6.symm
  subst e5
  subst e6
  cases h4
  show am_V G _ _ _ _ _ 7 [(0, .ref 11), (1, .long a), (3, .long b)] [.int 11, .ref 51] M nx 0 0
  refine v_tiald (v := .int 1) (am_Dk d_Nm_isTrueOf (k := 3) rfl) (List.mem_of_getElem? (i := 1) rfl) (show ¬ (_ ∨ _) from by decide) (by decide) ?_
  refine v_tableIn (tgt := 44) (off := 36) (am_Dk d_Nm_isTrueOf (k := 4) rfl) (by decide) (by decide) (by decide) (by decide) ?_
  refine v_lload_n (am_Dk d_Nm_isTrueOf (k := 5) rfl) rfl ?_
  refine v_lload_n (am_Dk d_Nm_isTrueOf (k := 6) rfl) rfl ?_
  refine v_lcmp (am_Dk d_Nm_isTrueOf (k := 7) rfl) ?_
  refine v_if_ge (tgt := 54) (am_Dk d_Nm_isTrueOf (k := 8) rfl) (by decide) (fun c7 => ?_) (fun c7 => ?_)
  · have Nc7 := (lg_cmp_ge _ _).mp c7
    refine v_iconst (v := 0) (am_Dk d_Nm_isTrueOf (k := 11) rfl) (by decide) ?_
    exact v_ireturn (am_Dk d_Nm_isTrueOf (k := 12) rfl) rfl rfl (by omega) (by omega) ⟨by first | (simp [truK, bi, *]; done) | (simp [truK, bi, *]; first | assumption | exact Int64.not_le.mp (by assumption) | exact Int64.not_lt.mp (by assumption) | exact Int64.not_le.mpr (by assumption) | exact Int64.not_lt.mpr (by assumption) | (intro z; exact absurd z (by assumption)) | exact fun z => absurd (by assumption) z), rfl, rfl⟩
  · have Nc7 := fun z => c7 ((lg_cmp_ge _ _).mpr z)
    refine v_iconst (v := 1) (am_Dk d_Nm_isTrueOf (k := 9) rfl) (by decide) ?_
    refine v_goto (tgt := 55) (am_Dk d_Nm_isTrueOf (k := 10) rfl) (by decide) ?_
    exact v_ireturn (am_Dk d_Nm_isTrueOf (k := 12) rfl) rfl rfl (by omega) (by omega) ⟨by first | (simp [truK, bi, *]; done) | (simp [truK, bi, *]; first | assumption | exact Int64.not_le.mp (by assumption) | exact Int64.not_lt.mp (by assumption) | exact Int64.not_le.mpr (by assumption) | exact Int64.not_lt.mpr (by assumption) | (intro z; exact absurd z (by assumption)) | exact fun z => absurd (by assumption) z), rfl, rfl⟩
set_option maxRecDepth 20000 in
theorem t_Nm_isTrueOf_12 (G : am_G) {d nx : Nat} (hd : 1 ≤ d) {M : am_M} {a b : Int64} : am_Tr G m_Nm_isTrueOf d 0 0 [.ref 12, .long a, .long b] M nx (fun r M1 nx1 => r = .inl (some (.int (bi (truK 12 a b)))) ∧ M1 = M ∧ nx1 = nx) := by
  refine am_TrOf (by decide) (Nat.le_of_ble_eq_true rfl) ?_
  show am_V G _ _ _ _ _ 0 [(0, .ref 12), (1, .long a), (3, .long b)] [] M nx 0 0
  refine v_gets (v := .ref 51) (am_Dk d_Nm_isTrueOf (k := 0) rfl) s_Nm_145 (by decide +kernel) ?_
  refine v_aload_n (am_Dk d_Nm_isTrueOf (k := 1) rfl) rfl ?_
  refine v_callU (rest := [.ref 51]) (As := []) (mc' := 0) (ms' := 0) (am_Dk d_Nm_isTrueOf (k := 2) rfl) c_Nm_151 (Or.inr (by decide +kernel)) (t_jE_ordinal G (d := 0) (k := 12) (v := 12) (by omega) (en_oN 12 (by decide))) (by omega) (by omega) (by omega) (by simp [Value.category]) rfl (fun v1 M2 n3 h4 => ?_) (fun _ _ _ h4 => ?_)
  rotate_left
  · exact absurd h4.1 (by simp)
  obtain ⟨h4, e5, e6⟩ := h4
  replace e5 := e5.symm
  replace e6 := e6.symm
  subst e5
  subst e6
  cases h4
  show am_V G _ _ _ _ _ 7 [(0, .ref 12), (1, .long a), (3, .long b)] [.int 12, .ref 51] M nx 0 0
  refine v_tiald (v := .int 2) (am_Dk d_Nm_isTrueOf (k := 3) rfl) (List.mem_of_getElem? (i := 1) rfl) (show ¬ (_ ∨ _) from by decide) (by decide) ?_
  refine v_tableIn (tgt := 56) (off := 48) (am_Dk d_Nm_isTrueOf (k := 4) rfl) (by decide) (by decide) (by decide) (by decide) ?_
  refine v_lload_n (am_Dk d_Nm_isTrueOf (k := 13) rfl) rfl ?_
  refine v_lload_n (am_Dk d_Nm_isTrueOf (k := 14) rfl) rfl ?_
  refine v_lcmp (am_Dk d_Nm_isTrueOf (k := 15) rfl) ?_
  refine v_if_le (tgt := 66) (am_Dk d_Nm_isTrueOf (k := 16) rfl) (by decide) (fun c7 => ?_) (fun c7 => ?_)
  · have Nc7 := (lg_cmp_le _ _).mp c7
    refine v_iconst (v := 0) (am_Dk d_Nm_isTrueOf (k := 19) rfl) (by decide) ?_
    exact v_ireturn (am_Dk d_Nm_isTrueOf (k := 20) rfl) rfl rfl (by omega) (by omega) ⟨by first | (simp [truK, bi, *]; done) | (simp [truK, bi, *]; first | assumption | exact Int64.not_le.mp (by assumption) | exact Int64.not_lt.mp (by assumption) | exact Int64.not_le.mpr (by assumption) | exact Int64.not_lt.mpr (by assumption) | (intro z; exact absurd z (by assumption)) | exact fun z => absurd (by assumption) z), rfl, rfl⟩
  · have Nc7 := fun z => c7 ((lg_cmp_le _ _).mpr z)
    refine v_iconst (v := 1) (am_Dk d_Nm_isTrueOf (k := 17) rfl) (by decide) ?_
    refine v_goto (tgt := 67) (am_Dk d_Nm_isTrueOf (k := 18) rfl) (by decide) ?_
    exact v_ireturn (am_Dk d_Nm_isTrueOf (k := 20) rfl) rfl rfl (by omega) (by omega) ⟨by first | (simp [truK, bi, *]; done) | (simp [truK, bi, *]; first | assumption | exact Int64.not_le.mp (by assumption) | exact Int64.not_lt.mp (by assumption) | exact Int64.not_le.mpr (by assumption) | exact Int64.not_lt.mpr (by assumption) | (intro z; exact absurd z (by assumption)) | exact fun z => absurd (by assumption) z), rfl, rfl⟩
set_option maxRecDepth 20000 in
theorem t_Nm_isTrueOf_13 (G : am_G) {d nx : Nat} (hd : 1 ≤ d) {M : am_M} {a b : Int64} : am_Tr G m_Nm_isTrueOf d 0 0 [.ref 13, .long a, .long b] M nx (fun r M1 nx1 => r = .inl (some (.int (bi (truK 13 a b)))) ∧ M1 = M ∧ nx1 = nx) := by
  refine am_TrOf (by decide) (Nat.le_of_ble_eq_true rfl) ?_
  show am_V G _ _ _ _ _ 0 [(0, .ref 13), (1, .long a), (3, .long b)] [] M nx 0 0
  refine v_gets (v := .ref 51) (am_Dk d_Nm_isTrueOf (k := 0) rfl) s_Nm_145 (by decide +kernel) ?_
  refine v_aload_n (am_Dk d_Nm_isTrueOf (k := 1) rfl) rfl ?_
  refine v_callU (rest := [.ref 51]) (As := []) (mc' := 0) (ms' := 0) (am_Dk d_Nm_isTrueOf (k := 2) rfl) c_Nm_151 (Or.inr (by decide +kernel)) (t_jE_ordinal G (d := 0) (k := 13) (v := 13) (by omega) (en_oN 13 (by decide))) (by omega) (by omega) (by omega) (by simp [Value.category]) rfl (fun v1 M2 n3 h4 => ?_) (fun _ _ _ h4 => ?_)
  rotate_left
  · exact absurd h4.1 (by simp)
  obtain ⟨h4, e5, e6⟩ := h4
  replace e5 := e5.symm
  replace e6 := e6.symm
  subst e5
  subst e6
  cases h4
  show am_V G _ _ _ _ _ 7 [(0, .ref 13), (1, .long a), (3, .long b)] [.int 13, .ref 51] M nx 0 0
  refine v_tiald (v := .int 3) (am_Dk d_Nm_isTrueOf (k := 3) rfl) (List.mem_of_getElem? (i := 1) rfl) (show ¬ (_ ∨ _) from by decide) (by decide) ?_
  refine v_tableIn (tgt := 68) (off := 60) (am_Dk d_Nm_isTrueOf (k := 4) rfl) (by decide) (by decide) (by decide) (by decide) ?_
  refine v_lload_n (am_Dk d_Nm_isTrueOf (k := 21) rfl) rfl ?_
  refine v_lload_n (am_Dk d_Nm_isTrueOf (k := 22) rfl) rfl ?_
  refine v_lcmp (am_Dk d_Nm_isTrueOf (k := 23) rfl) ?_
  refine v_if_gt (tgt := 78) (am_Dk d_Nm_isTrueOf (k := 24) rfl) (by decide) (fun c7 => ?_) (fun c7 => ?_)
  · have Nc7 := (lg_cmp_gt _ _).mp c7
    refine v_iconst (v := 0) (am_Dk d_Nm_isTrueOf (k := 27) rfl) (by decide) ?_
    exact v_ireturn (am_Dk d_Nm_isTrueOf (k := 28) rfl) rfl rfl (by omega) (by omega) ⟨by first | (simp [truK, bi, *]; done) | (simp [truK, bi, *]; first | assumption | exact Int64.not_le.mp (by assumption) | exact Int64.not_lt.mp (by assumption) | exact Int64.not_le.mpr (by assumption) | exact Int64.not_lt.mpr (by assumption) | (intro z; exact absurd z (by assumption)) | exact fun z => absurd (by assumption) z), rfl, rfl⟩
  · have Nc7 := fun z => c7 ((lg_cmp_gt _ _).mpr z)
    refine v_iconst (v := 1) (am_Dk d_Nm_isTrueOf (k := 25) rfl) (by decide) ?_
    refine v_goto (tgt := 79) (am_Dk d_Nm_isTrueOf (k := 26) rfl) (by decide) ?_
    exact v_ireturn (am_Dk d_Nm_isTrueOf (k := 28) rfl) rfl rfl (by omega) (by omega) ⟨by first | (simp [truK, bi, *]; done) | (simp [truK, bi, *]; first | assumption | exact Int64.not_le.mp (by assumption) | exact Int64.not_lt.mp (by assumption) | exact Int64.not_le.mpr (by assumption) | exact Int64.not_lt.mpr (by assumption) | (intro z; exact absurd z (by assumption)) | exact fun z => absurd (by assumption) z), rfl, rfl⟩
set_option maxRecDepth 20000 in
theorem t_Nm_isTrueOf_14 (G : am_G) {d nx : Nat} (hd : 1 ≤ d) {M : am_M} {a b : Int64} : am_Tr G m_Nm_isTrueOf d 0 0 [.ref 14, .long a, .long b] M nx (fun r M1 nx1 => r = .inl (some (.int (bi (truK 14 a b)))) ∧ M1 = M ∧ nx1 = nx) := by
  refine am_TrOf (by decide) (Nat.le_of_ble_eq_true rfl) ?_
  show am_V G _ _ _ _ _ 0 [(0, .ref 14), (1, .long a), (3, .long b)] [] M nx 0 0
  refine v_gets (v := .ref 51) (am_Dk d_Nm_isTrueOf (k := 0) rfl) s_Nm_145 (by decide +kernel) ?_
  refine v_aload_n (am_Dk d_Nm_isTrueOf (k := 1) rfl) rfl ?_
  refine v_callU (rest := [.ref 51]) (As := []) (mc' := 0) (ms' := 0) (am_Dk d_Nm_isTrueOf (k := 2) rfl) c_Nm_151 (Or.inr (by decide +kernel)) (t_jE_ordinal G (d := 0) (k := 14) (v := 14) (by omega) (en_oN 14 (by decide))) (by omega) (by omega) (by omega) (by simp [Value.category]) rfl (fun v1 M2 n3 h4 => ?_) (fun _ _ _ h4 => ?_)
  rotate_left
  · exact absurd h4.1 (by simp)
  obtain ⟨h4, e5, e6⟩ := h4
  replace e5 := e5.symm
  replace e6 := e6.symm
  subst e5
  subst e6
  cases h4
  show am_V G _ _ _ _ _ 7 [(0, .ref 14), (1, .long a), (3, .long b)] [.int 14, .ref 51] M nx 0 0
  refine v_tiald (v := .int 4) (am_Dk d_Nm_isTrueOf (k := 3) rfl) (List.mem_of_getElem? (i := 1) rfl) (show ¬ (_ ∨ _) from by decide) (by decide) ?_
  refine v_tableIn (tgt := 80) (off := 72) (am_Dk d_Nm_isTrueOf (k := 4) rfl) (by decide) (by decide) (by decide) (by decide) ?_
  refine v_lload_n (am_Dk d_Nm_isTrueOf (k := 29) rfl) rfl ?_
  refine v_lload_n (am_Dk d_Nm_isTrueOf (k := 30) rfl) rfl ?_
  refine v_lcmp (am_Dk d_Nm_isTrueOf (k := 31) rfl) ?_
  refine v_if_lt (tgt := 90) (am_Dk d_Nm_isTrueOf (k := 32) rfl) (by decide) (fun c7 => ?_) (fun c7 => ?_)
  · have Nc7 := (lg_cmp_lt _ _).mp c7
    refine v_iconst (v := 0) (am_Dk d_Nm_isTrueOf (k := 35) rfl) (by decide) ?_
    exact v_ireturn (am_Dk d_Nm_isTrueOf (k := 36) rfl) rfl rfl (by omega) (by omega) ⟨by first | (simp [truK, bi, *]; done) | (simp [truK, bi, *]; first | assumption | exact Int64.not_le.mp (by assumption) | exact Int64.not_lt.mp (by assumption) | exact Int64.not_le.mpr (by assumption) | exact Int64.not_lt.mpr (by assumption) | (intro z; exact absurd z (by assumption)) | exact fun z => absurd (by assumption) z), rfl, rfl⟩
  · have Nc7 := fun z => c7 ((lg_cmp_lt _ _).mpr z)
    refine v_iconst (v := 1) (am_Dk d_Nm_isTrueOf (k := 33) rfl) (by decide) ?_
    refine v_goto (tgt := 91) (am_Dk d_Nm_isTrueOf (k := 34) rfl) (by decide) ?_
    exact v_ireturn (am_Dk d_Nm_isTrueOf (k := 36) rfl) rfl rfl (by omega) (by omega) ⟨by first | (simp [truK, bi, *]; done) | (simp [truK, bi, *]; first | assumption | exact Int64.not_le.mp (by assumption) | exact Int64.not_lt.mp (by assumption) | exact Int64.not_le.mpr (by assumption) | exact Int64.not_lt.mpr (by assumption) | (intro z; exact absurd z (by assumption)) | exact fun z => absurd (by assumption) z), rfl, rfl⟩
set_option maxRecDepth 20000 in
theorem t_Nm_isTrueOf_15 (G : am_G) {d nx : Nat} (hd : 1 ≤ d) {M : am_M} {a b : Int64} : am_Tr G m_Nm_isTrueOf d 0 0 [.ref 15, .long a, .long b] M nx (fun r M1 nx1 => r = .inl (some (.int (bi (truK 15 a b)))) ∧ M1 = M ∧ nx1 = nx) := by
  refine am_TrOf (by decide) (Nat.le_of_ble_eq_true rfl) ?_
  show am_V G _ _ _ _ _ 0 [(0, .ref 15), (1, .long a), (3, .long b)] [] M nx 0 0
  refine v_gets (v := .ref 51) (am_Dk d_Nm_isTrueOf (k := 0) rfl) s_Nm_145 (by decide +kernel) ?_
  refine v_aload_n (am_Dk d_Nm_isTrueOf (k := 1) rfl) rfl ?_
  refine v_callU (rest := [.ref 51]) (As := []) (mc' := 0) (ms' := 0) (am_Dk d_Nm_isTrueOf (k := 2) rfl) c_Nm_151 (Or.inr (by decide +kernel)) (t_jE_ordinal G (d := 0) (k := 15) (v := 15) (by omega) (en_oN 15 (by decide))) (by omega) (by omega) (by omega) (by simp [Value.category]) rfl (fun v1 M2 n3 h4 => ?_) (fun _ _ _ h4 => ?_)
  rotate_left
  · exact absurd h4.1 (by simp)
  obtain ⟨h4, e5, e6⟩ := h4
  replace e5 := e5.symm
  replace e6 := e6.symm
  subst e5
  subst e6
  cases h4
  show am_V G _ _ _ _ _ 7 [(0, .ref 15), (1, .long a), (3, .long b)] [.int 15, .ref 51] M nx 0 0
  refine v_tiald (v := .int 5) (am_Dk d_Nm_isTrueOf (k := 3) rfl) (List.mem_of_getElem? (i := 1) rfl) (show ¬ (_ ∨ _) from by decide) (by decide) ?_
  refine v_tableIn (tgt := 92) (off := 84) (am_Dk d_Nm_isTrueOf (k := 4) rfl) (by decide) (by decide) (by decide) (by decide) ?_
  refine v_lload_n (am_Dk d_Nm_isTrueOf (k := 37) rfl) rfl ?_
  refine v_lload_n (am_Dk d_Nm_isTrueOf (k := 38) rfl) rfl ?_
  refine v_lcmp (am_Dk d_Nm_isTrueOf (k := 39) rfl) ?_
  refine v_if_ne (tgt := 102) (am_Dk d_Nm_isTrueOf (k := 40) rfl) (by decide) (fun c7 => ?_) (fun c7 => ?_)
  · have Nc7 := fun z => c7 ((lg_cmp_eq _ _).mpr z)
    refine v_iconst (v := 0) (am_Dk d_Nm_isTrueOf (k := 43) rfl) (by decide) ?_
    exact v_ireturn (am_Dk d_Nm_isTrueOf (k := 44) rfl) rfl rfl (by omega) (by omega) ⟨by first | (simp [truK, bi, *]; done) | (simp [truK, bi, *]; first | assumption | exact Int64.not_le.mp (by assumption) | exact Int64.not_lt.mp (by assumption) | exact Int64.not_le.mpr (by assumption) | exact Int64.not_lt.mpr (by assumption) | (intro z; exact absurd z (by assumption)) | exact fun z => absurd (by assumption) z), rfl, rfl⟩
  · have Nc7 := (lg_cmp_eq _ _).mp c7
    refine v_iconst (v := 1) (am_Dk d_Nm_isTrueOf (k := 41) rfl) (by decide) ?_
    refine v_goto (tgt := 103) (am_Dk d_Nm_isTrueOf (k := 42) rfl) (by decide) ?_
    exact v_ireturn (am_Dk d_Nm_isTrueOf (k := 44) rfl) rfl rfl (by omega) (by omega) ⟨by first | (simp [truK, bi, *]; done) | (simp [truK, bi, *]; first | assumption | exact Int64.not_le.mp (by assumption) | exact Int64.not_lt.mp (by assumption) | exact Int64.not_le.mpr (by assumption) | exact Int64.not_lt.mpr (by assumption) | (intro z; exact absurd z (by assumption)) | exact fun z => absurd (by assumption) z), rfl, rfl⟩
set_option maxRecDepth 20000 in
theorem t_Nm_isTrueOf_16 (G : am_G) {d nx : Nat} (hd : 1 ≤ d) {M : am_M} {a b : Int64} : am_Tr G m_Nm_isTrueOf d 0 0 [.ref 16, .long a, .long b] M nx (fun r M1 nx1 => r = .inl (some (.int (bi (truK 16 a b)))) ∧ M1 = M ∧ nx1 = nx) := by
  refine am_TrOf (by decide) (Nat.le_of_ble_eq_true rfl) ?_
  show am_V G _ _ _ _ _ 0 [(0, .ref 16), (1, .long a), (3, .long b)] [] M nx 0 0
  refine v_gets (v := .ref 51) (am_Dk d_Nm_isTrueOf (k := 0) rfl) s_Nm_145 (by decide +kernel) ?_
  refine v_aload_n (am_Dk d_Nm_isTrueOf (k := 1) rfl) rfl ?_
  refine v_callU (rest := [.ref 51]) (As := []) (mc' := 0) (ms' := 0) (am_Dk d_Nm_isTrueOf (k := 2) rfl) c_Nm_151 (Or.inr (by decide +kernel)) (t_jE_ordinal G (d := 0) (k := 16) (v := 16) (by omega) (en_oN 16 (by decide))) (by omega) (by omega) (by omega) (by simp [Value.category]) rfl (fun v1 M2 n3 h4 => ?_) (fun _ _ _ h4 => ?_)
  rotate_left
  · exact absurd h4.1 (by simp)
  obtain ⟨h4, e5, e6⟩ := h4
  replace e5 := e5.symm
  replace e6 := e6.symm
  subst e5
  subst e6
  cases h4
  show am_V G _ _ _ _ _ 7 [(0, .ref 16), (1, .long a), (3, .long b)] [.int 16, .ref 51] M nx 0 0
  refine v_tiald (v := .int 0) (am_Dk d_Nm_isTrueOf (k := 3) rfl) (List.mem_of_getElem? (i := 1) rfl) (show ¬ (_ ∨ _) from by decide) (by decide) ?_
  refine v_tableOut (tgt := 104) (am_Dk d_Nm_isTrueOf (k := 4) rfl) (by decide) (by decide) ?_
  refine v_lload_n (am_Dk d_Nm_isTrueOf (k := 45) rfl) rfl ?_
  refine v_lload_n (am_Dk d_Nm_isTrueOf (k := 46) rfl) rfl ?_
  refine v_lcmp (am_Dk d_Nm_isTrueOf (k := 47) rfl) ?_
  refine v_if_eq (tgt := 114) (am_Dk d_Nm_isTrueOf (k := 48) rfl) (by decide) (fun c7 => ?_) (fun c7 => ?_)
  · have Nc7 := (lg_cmp_eq _ _).mp c7
    refine v_iconst (v := 0) (am_Dk d_Nm_isTrueOf (k := 51) rfl) (by decide) ?_
    exact v_ireturn (am_Dk d_Nm_isTrueOf (k := 52) rfl) rfl rfl (by omega) (by omega) ⟨by first | (simp [truK, bi, *]; done) | (simp [truK, bi, *]; first | assumption | exact Int64.not_le.mp (by assumption) | exact Int64.not_lt.mp (by assumption) | exact Int64.not_le.mpr (by assumption) | exact Int64.not_lt.mpr (by assumption) | (intro z; exact absurd z (by assumption)) | exact fun z => absurd (by assumption) z), rfl, rfl⟩
  · have Nc7 := fun z => c7 ((lg_cmp_eq _ _).mpr z)
    refine v_iconst (v := 1) (am_Dk d_Nm_isTrueOf (k := 49) rfl) (by decide) ?_
    refine v_goto (tgt := 115) (am_Dk d_Nm_isTrueOf (k := 50) rfl) (by decide) ?_
    exact v_ireturn (am_Dk d_Nm_isTrueOf (k := 52) rfl) rfl rfl (by omega) (by omega) ⟨by first | (simp [truK, bi, *]; done) | (simp [truK, bi, *]; first | assumption | exact Int64.not_le.mp (by assumption) | exact Int64.not_lt.mp (by assumption) | exact Int64.not_le.mpr (by assumption) | exact Int64.not_lt.mpr (by assumption) | (intro z; exact absurd z (by assumption)) | exact fun z => absurd (by assumption) z), rfl, rfl⟩
theorem t_Nm_isTrueOf (G : am_G) {d nx : Nat} (hd : 1 ≤ d) {M : am_M} {k : Nat} {a b : Int64} (h : cmpK k = true) : am_Tr G m_Nm_isTrueOf d 0 0 [.ref k, .long a, .long b] M nx (fun r M1 nx1 => r = .inl (some (.int (bi (truK k a b)))) ∧ M1 = M ∧ nx1 = nx) := by
  rcases of_decide_eq_true h with rfl | rfl | rfl | rfl | rfl | rfl
  · exact t_Nm_isTrueOf_11 G hd
  · exact t_Nm_isTrueOf_12 G hd
  · exact t_Nm_isTrueOf_13 G hd
  · exact t_Nm_isTrueOf_14 G hd
  · exact t_Nm_isTrueOf_15 G hd
  · exact t_Nm_isTrueOf_16 G hd
