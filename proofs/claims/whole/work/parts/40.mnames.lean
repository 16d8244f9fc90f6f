/-! THE REFERENCE'S NAMES (mine; rows laid by the walker) -/
def NMs (M : am_M) (ns tx : Nat) (T : Nat → Int32) (F : Nat → Nat) : Prop :=
  M 1220 = some (.inr (11, [.ref 1221, .ref 1222, .ref 1223, .ref 1224, .int (nI ns), .int (nI tx)])) ∧ M 1221 = some (.inl (0, 5000, .inl T)) ∧ tbB T ∧ nmO F ns tx ∧ (∃ A, M 1222 = some (.inl (1, 9001, .inl A)) ∧ ∀ k, k ≤ ns → A k = nI (F k)) ∧ (∃ X, M 1223 = some (.inl (1, 9000, .inl X)) ∧ ∀ k, k < ns → X k = gr (nmH T F) (nmH T F k) k) ∧ (∃ Y, M 1224 = some (.inl (1, 1024, .inl Y)) ∧ ∀ h, h < 1024 → Y h = gr (nmH T F) h ns)
theorem nmT_1 {T g : Nat → Int32} {tx i : Nat} : upd (nmT T tx i g) (tx + i) (g i) = nmT T tx (i + 1) g := by
  funext x
  rw [upd, nmT, nmT]
  by_cases h : x = tx + i
  · rw [if_pos h, if_pos (by omega), h]
    congr 1
    omega
  · rw [if_neg h]
    by_cases h2 : tx ≤ x ∧ x < tx + i
    · rw [if_pos h2, if_pos (by omega)]
    · rw [if_neg h2, if_neg (by omega)]
theorem nI_nm1 {w : Nat} (h : w < 100000) : ¬ nI w = -1 := by
  intro e
  have := congrArg Int32.toInt e
  rw [show ((-1 : Int32).toInt) = -1 from by decide, nI_toInt (by omega)] at this
  omega
theorem nmT_0 {T g : Nat → Int32} {tx : Nat} : nmT T tx 0 g = T := by
  funext x
  rw [nmT, if_neg (by omega)]
theorem tbB_nmT {T g : Nat → Int32} {tx l : Nat} (hT : tbB T) (hg : tbB g) : tbB (nmT T tx l g) := by
  intro i
  rw [nmT]
  split
  · exact hg _
  · exact hT _
set_option maxRecDepth 20000 in
theorem t_MN_length (G : am_G) {d nx : Nat} (hd : 0 ≤ d) {M : am_M} {ns tx k : Nat} {T A : Nat → Int32} {F : Nat → Nat} (hN : M 1220 = some (.inr (11, [.ref 1221, .ref 1222, .ref 1223, .ref 1224, .int (nI ns), .int (nI tx)]))) (hT : M 1221 = some (.inl (0, 5000, .inl T))) (hO : nmO F ns tx) (hF : M 1222 = some (.inl (1, 9001, .inl A))) (hA : ∀ k, k ≤ ns → A k = nI (F k)) (hk : k < ns) (hns : ns ≤ 9000) (htx : tx ≤ 5000) : am_Tr G m_MN_length d 0 0 [.ref 1220, .int (nI k)] M nx (fun r M1 nx1 => r = .inl (some (.int (nI (nmL F k)))) ∧ M1 = M ∧ nx1 = nx) := by
  refine am_TrOf (by decide) (Nat.le_of_ble_eq_true rfl) ?_
  show am_V G _ _ _ _ _ 0 [(0, .ref 1220), (1, .int (nI k))] [] M nx 0 0
  have hF1 := nmO_le hO (k + 1) (by omega)
  have hF0 := nmO_le hO k (by omega)
  have hF2 := hO.2.2 k hk
  refine v_aload_n (am_Dk d_MN_length (k := 0) rfl) rfl ?_
  refine v_get (am_Dk d_MN_length (k := 1) rfl) f_MN_15 hN rfl ?_
  refine v_iload_n (am_Dk d_MN_length (k := 2) rfl) rfl ?_
  refine v_iconst (v := 1) (am_Dk d_MN_length (k := 3) rfl) (by decide) ?_
  refine v_iadd (am_Dk d_MN_length (k := 4) rfl) ?_
  rw [nI_1]
  refine v_iald (am_Dk d_MN_length (k := 5) rfl) hF rfl (vp_in_nI (by omega) (by omega)) ?_
  rw [nI_clamp (n := k + 1) (by omega)]
  rw [show A (k + 1) = nI (F (k + 1)) from hA _ (by omega)]
  refine v_aload_n (am_Dk d_MN_length (k := 6) rfl) rfl ?_
  refine v_get (am_Dk d_MN_length (k := 7) rfl) f_MN_15 hN rfl ?_
  refine v_iload_n (am_Dk d_MN_length (k := 8) rfl) rfl ?_
  refine v_iald (am_Dk d_MN_length (k := 9) rfl) hF rfl (vp_in_nI (by omega) (by omega)) ?_
  rw [nI_clamp (n := k) (by omega)]
  rw [show A k = nI (F k) from hA _ (by omega)]
  refine v_isub (am_Dk d_MN_length (k := 10) rfl) ?_
  rw [nI_sub (hO.2.2 k hk)]
  exact v_ireturn (am_Dk d_MN_length (k := 11) rfl) rfl rfl (by omega) (by omega) ⟨rfl, rfl, rfl⟩
set_option maxRecDepth 20000 in
theorem t_MN_at (G : am_G) {d nx : Nat} (hd : 0 ≤ d) {M : am_M} {ns tx k : Nat} {T A : Nat → Int32} {F : Nat → Nat} (hN : M 1220 = some (.inr (11, [.ref 1221, .ref 1222, .ref 1223, .ref 1224, .int (nI ns), .int (nI tx)]))) (hT : M 1221 = some (.inl (0, 5000, .inl T))) (hO : nmO F ns tx) (hF : M 1222 = some (.inl (1, 9001, .inl A))) (hA : ∀ k, k ≤ ns → A k = nI (F k)) (hk : k < ns) (hns : ns ≤ 9000) (htx : tx ≤ 5000) {i : Nat} (hi : i < nmL F k) : am_Tr G m_MN_at d 0 0 [.ref 1220, .int (nI k), .int (nI i)] M nx (fun r M1 nx1 => r = .inl (some (.int (nmW T F k i))) ∧ M1 = M ∧ nx1 = nx) := by
  refine am_TrOf (by decide) (Nat.le_of_ble_eq_true rfl) ?_
  show am_V G _ _ _ _ _ 0 [(0, .ref 1220), (1, .int (nI k)), (2, .int (nI i))] [] M nx 0 0
  have hF1 := nmO_le hO (k + 1) (by omega)
  have hF0 := nmO_le hO k (by omega)
  have hF2 := hO.2.2 k hk
  rw [nmL] at hi
  refine v_aload_n (am_Dk d_MN_at (k := 0) rfl) rfl ?_
  refine v_get (am_Dk d_MN_at (k := 1) rfl) f_MN_9 hN rfl ?_
  refine v_aload_n (am_Dk d_MN_at (k := 2) rfl) rfl ?_
  refine v_get (am_Dk d_MN_at (k := 3) rfl) f_MN_15 hN rfl ?_
  refine v_iload_n (am_Dk d_MN_at (k := 4) rfl) rfl ?_
  refine v_iald (am_Dk d_MN_at (k := 5) rfl) hF rfl (vp_in_nI (by omega) (by omega)) ?_
  rw [nI_clamp (n := k) (by omega)]
  rw [show A k = nI (F k) from hA _ (by omega)]
  refine v_iload_n (am_Dk d_MN_at (k := 6) rfl) rfl ?_
  refine v_iadd (am_Dk d_MN_at (k := 7) rfl) ?_
  rw [nI_add]
  refine v_bald (am_Dk d_MN_at (k := 8) rfl) hT rfl (vp_in_nI (by omega) (by omega)) ?_
  rw [nI_clamp (n := F k + i) (by omega)]
  exact v_ireturn (am_Dk d_MN_at (k := 9) rfl) rfl rfl (by omega) (by omega) ⟨rfl, rfl, rfl⟩
set_option maxRecDepth 20000 in
theorem l_MN_same1 (G : am_G) {d nx : Nat} {M : am_M} {ns tx k : Nat} {T A : Nat → Int32} {F : Nat → Nat} (hN : M 1220 = some (.inr (11, [.ref 1221, .ref 1222, .ref 1223, .ref 1224, .int (nI ns), .int (nI tx)]))) (hT : M 1221 = some (.inl (0, 5000, .inl T))) (hO : nmO F ns tx) (hF : M 1222 = some (.inl (1, 9001, .inl A))) (hA : ∀ k, k ≤ ns → A k = nI (F k)) (hk : k < ns) (hns : ns ≤ 9000) (htx : tx ≤ 5000) {l : Nat} {g : Nat → Int32} (hw : M 1229 = some (.inl (0, 4096, .inl g))) (hl : l ≤ 4096) (hlen : F (k + 1) - F k = l) : ∀ m i, i + m = l → (∀ j, j < i → T (F k + j) = g j) → am_V G m_MN_same d 0 0 (fun r M1 nx1 => r = .inl (some (.int (bi (decide (nmL F k = l ∧ ∀ i, i < l → T (F k + i) = g i))))) ∧ M1 = M ∧ nx1 = nx) 24 [(4, .int (nI i)), (0, .ref 1220), (1, .int (nI k)), (2, .ref 1229), (3, .int (nI l))] [] M nx 0 0 := by
  have hF1 := nmO_le hO (k + 1) (by omega)
  have hF0 := nmO_le hO k (by omega)
  have hF2 := hO.2.2 k hk
  intro m
  induction m with
  | zero =>
    intro i him hall
    refine v_iload (am_Dk d_MN_same (k := 17) rfl) rfl ?_
    refine v_iload_n (am_Dk d_MN_same (k := 18) rfl) rfl ?_
    refine v_icmp_ge (tgt := 59) (am_Dk d_MN_same (k := 19) rfl) (by decide) (fun c1 => ?_) (fun c1 => ?_)
    · have Nc1 := (nI_leI (a := l) (b := i) (by omega) (by omega)).mp c1
      refine v_iconst (v := 1) (am_Dk d_MN_same (k := 37) rfl) (by decide) ?_
      exact v_ireturn (am_Dk d_MN_same (k := 38) rfl) rfl rfl (by omega) (by omega) ⟨by rw [decide_eq_true ⟨hlen, fun j hj => hall j (by omega)⟩]; rfl, rfl, rfl⟩
    · have Nc1 : ¬ l ≤ i := fun z => c1 ((nI_leI (a := l) (b := i) (by omega) (by omega)).mpr z)
      exfalso
      omega
  | succ m ih =>
    intro i him hall
    refine v_iload (am_Dk d_MN_same (k := 17) rfl) rfl ?_
    refine v_iload_n (am_Dk d_MN_same (k := 18) rfl) rfl ?_
    refine v_icmp_ge (tgt := 59) (am_Dk d_MN_same (k := 19) rfl) (by decide) (fun c1 => ?_) (fun c1 => ?_)
    · have Nc1 := (nI_leI (a := l) (b := i) (by omega) (by omega)).mp c1
      exfalso
      omega
    · have Nc1 : ¬ l ≤ i := fun z => c1 ((nI_leI (a := l) (b := i) (by omega) (by omega)).mpr z)
      refine v_aload_n (am_Dk d_MN_same (k := 20) rfl) rfl ?_
      refine v_get (am_Dk d_MN_same (k := 21) rfl) f_MN_9 hN rfl ?_
      refine v_aload_n (am_Dk d_MN_same (k := 22) rfl) rfl ?_
      refine v_get (am_Dk d_MN_same (k := 23) rfl) f_MN_15 hN rfl ?_
      refine v_iload_n (am_Dk d_MN_same (k := 24) rfl) rfl ?_
      refine v_iald (am_Dk d_MN_same (k := 25) rfl) hF rfl (vp_in_nI (by omega) (by omega)) ?_
      rw [nI_clamp (n := k) (by omega)]
      rw [show A k = nI (F k) from hA _ (by omega)]
      refine v_iload (am_Dk d_MN_same (k := 26) rfl) rfl ?_
      refine v_iadd (am_Dk d_MN_same (k := 27) rfl) ?_
      rw [nI_add]
      refine v_bald (am_Dk d_MN_same (k := 28) rfl) hT rfl (vp_in_nI (by omega) (by omega)) ?_
      rw [nI_clamp (n := F k + i) (by omega)]
      refine v_aload_n (am_Dk d_MN_same (k := 29) rfl) rfl ?_
      refine v_iload (am_Dk d_MN_same (k := 30) rfl) rfl ?_
      refine v_bald (am_Dk d_MN_same (k := 31) rfl) hw rfl (vp_in_nI (by omega) (by omega)) ?_
      rw [nI_clamp (n := i) (by omega)]
      refine v_icmp_eq (tgt := 53) (am_Dk d_MN_same (k := 32) rfl) (by decide) (fun c2 => ?_) (fun c2 => ?_)
      · have hEq := c2
        refine v_iinc (v := nI (i + 1)) (L1 := [(4, .int (nI (i + 1))), (0, .ref 1220), (1, .int (nI k)), (2, .ref 1229), (3, .int (nI l))]) (am_Dk d_MN_same (k := 35) rfl) rfl (nI_1 _) (by decide) rfl ?_
        refine v_goto (tgt := 24) (am_Dk d_MN_same (k := 36) rfl) (by decide) ?_
        exact ih (i + 1) (by omega) (fun j hj => by
          rcases Nat.lt_succ_iff_lt_or_eq.mp hj with h | h
          · exact hall j h
          · subst h; exact hEq)
      · have hne := c2
        refine v_iconst (v := 0) (am_Dk d_MN_same (k := 33) rfl) (by decide) ?_
        exact v_ireturn (am_Dk d_MN_same (k := 34) rfl) rfl rfl (by omega) (by omega) ⟨by rw [decide_eq_false (fun z => hne (z.2 i (by omega)))]; rfl, rfl, rfl⟩
set_option maxRecDepth 20000 in
theorem t_MN_same (G : am_G) {d nx : Nat} (hd : 0 ≤ d) {M : am_M} {ns tx k : Nat} {T A : Nat → Int32} {F : Nat → Nat} (hN : M 1220 = some (.inr (11, [.ref 1221, .ref 1222, .ref 1223, .ref 1224, .int (nI ns), .int (nI tx)]))) (hT : M 1221 = some (.inl (0, 5000, .inl T))) (hO : nmO F ns tx) (hF : M 1222 = some (.inl (1, 9001, .inl A))) (hA : ∀ k, k ≤ ns → A k = nI (F k)) (hk : k < ns) (hns : ns ≤ 9000) (htx : tx ≤ 5000) {l : Nat} {g : Nat → Int32} (hw : M 1229 = some (.inl (0, 4096, .inl g))) (hl : l ≤ 4096) : am_Tr G m_MN_same d 0 0 [.ref 1220, .int (nI k), .ref 1229, .int (nI l)] M nx (fun r M1 nx1 => r = .inl (some (.int (bi (decide (nmL F k = l ∧ ∀ i, i < l → T (F k + i) = g i))))) ∧ M1 = M ∧ nx1 = nx) := by
  refine am_TrOf (by decide) (Nat.le_of_ble_eq_true rfl) ?_
  show am_V G _ _ _ _ _ 0 [(0, .ref 1220), (1, .int (nI k)), (2, .ref 1229), (3, .int (nI l))] [] M nx 0 0
  have hF1 := nmO_le hO (k + 1) (by omega)
  have hF0 := nmO_le hO k (by omega)
  have hF2 := hO.2.2 k hk
  refine v_aload_n (am_Dk d_MN_same (k := 0) rfl) rfl ?_
  refine v_get (am_Dk d_MN_same (k := 1) rfl) f_MN_15 hN rfl ?_
  refine v_iload_n (am_Dk d_MN_same (k := 2) rfl) rfl ?_
  refine v_iconst (v := 1) (am_Dk d_MN_same (k := 3) rfl) (by decide) ?_
  refine v_iadd (am_Dk d_MN_same (k := 4) rfl) ?_
  rw [nI_1]
  refine v_iald (am_Dk d_MN_same (k := 5) rfl) hF rfl (vp_in_nI (by omega) (by omega)) ?_
  rw [nI_clamp (n := k + 1) (by omega)]
  rw [show A (k + 1) = nI (F (k + 1)) from hA _ (by omega)]
  refine v_aload_n (am_Dk d_MN_same (k := 6) rfl) rfl ?_
  refine v_get (am_Dk d_MN_same (k := 7) rfl) f_MN_15 hN rfl ?_
  refine v_iload_n (am_Dk d_MN_same (k := 8) rfl) rfl ?_
  refine v_iald (am_Dk d_MN_same (k := 9) rfl) hF rfl (vp_in_nI (by omega) (by omega)) ?_
  rw [nI_clamp (n := k) (by omega)]
  rw [show A k = nI (F k) from hA _ (by omega)]
  refine v_isub (am_Dk d_MN_same (k := 10) rfl) ?_
  rw [nI_sub (hO.2.2 k hk)]
  refine v_iload_n (am_Dk d_MN_same (k := 11) rfl) rfl ?_
  refine v_icmp_eq (tgt := 21) (am_Dk d_MN_same (k := 12) rfl) (by decide) (fun c1 => ?_) (fun c1 => ?_)
  · have Nc1 := (nI_eq (a := F (k + 1) - F k) (b := l) (by omega) (by omega)).mp c1
    have hlen := Nc1
    refine v_iconst (v := 0) (am_Dk d_MN_same (k := 15) rfl) (by decide) ?_
    refine v_istore (L1 := [(4, .int 0), (0, .ref 1220), (1, .int (nI k)), (2, .ref 1229), (3, .int (nI l))]) (am_Dk d_MN_same (k := 16) rfl) (by decide) rfl ?_
    exact l_MN_same1 G hN hT hO hF hA hk hns htx hw hl hlen l 0 (by omega) (fun j hj => absurd hj (by omega))
  · have Nc1 : ¬ (F (k + 1) - F k) = l := fun z => c1 ((nI_eq (a := F (k + 1) - F k) (b := l) (by omega) (by omega)).mpr z)
    have hle : ¬ nmL F k = l := Nc1
    refine v_iconst (v := 0) (am_Dk d_MN_same (k := 13) rfl) (by decide) ?_
    exact v_ireturn (am_Dk d_MN_same (k := 14) rfl) rfl rfl (by omega) (by omega) ⟨by rw [decide_eq_false (fun z => hle z.1)]; rfl, rfl, rfl⟩
set_option maxRecDepth 20000 in
theorem l_MN_spells1 (G : am_G) {d nx : Nat} (hd : 4 ≤ d) {M : am_M} {ns tx k : Nat} {T A : Nat → Int32} {F : Nat → Nat} (hN : M 1220 = some (.inr (11, [.ref 1221, .ref 1222, .ref 1223, .ref 1224, .int (nI ns), .int (nI tx)]))) (hT : M 1221 = some (.inl (0, 5000, .inl T))) (hO : nmO F ns tx) (hF : M 1222 = some (.inl (1, 9001, .inl A))) (hA : ∀ k, k ≤ ns → A k = nI (F k)) (hk : k < ns) (hns : ns ≤ 9000) (htx : tx ≤ 5000) {S B : Nat} {w : List Nat} (hS : am_Str S B w) (hlen : nmL F k = w.length) : ∀ m i, i + m = w.length → (∀ j, j < i → nI (w.getD j 0) = nmW T F k j) → am_V G m_MN_spells d 0 0 (fun r M1 nx1 => r = .inl (some (.int (bi (spv w (nmL F k) (nmW T F k))))) ∧ M1 = M ∧ nx1 = nx) 16 [(3, .int (nI i)), (0, .ref 1220), (1, .int (nI k)), (2, .ref S)] [] M nx 0 0 := by
  have hl9 := hS.2.2.2.2.1
  intro m
  induction m with
  | zero =>
    intro i him hall
    refine v_iload_n (am_Dk d_MN_spells (k := 10) rfl) rfl ?_
    refine v_aload_n (am_Dk d_MN_spells (k := 11) rfl) rfl ?_
    refine v_callV (rest := [.int (nI i)]) (As := []) (mc' := 0) (ms' := 0) (am_Dk d_MN_spells (k := 12) rfl) c_MN_40 (Or.inr hS.1) (t_jS_length G (d := 1) (by omega) hS) (by omega) (by omega) (by omega) (by simp [Value.category]) rfl (fun v1 M2 n3 h4 => ?_) (fun _ _ _ h4 => ?_)
    rotate_left
    · exact absurd h4.1 (by simp)
    obtain ⟨h4, e5, e6⟩ := h4
    replace e5 := e5.symm
    replace e6 := e6.symm
    subst e5
    subst e6
    cases h4
    show am_V G _ _ _ _ _ 21 [(3, .int (nI i)), (0, .ref 1220), (1, .int (nI k)), (2, .ref S)] [.int (nI w.length), .int (nI i)] M nx 0 0
    refine v_icmp_ge (tgt := 46) (am_Dk d_MN_spells (k := 13) rfl) (by decide) (fun c7 => ?_) (fun c7 => ?_)
    · have Nc7 := (nI_leI (a := w.length) (b := i) (by omega) (by omega)).mp c7
      refine v_iconst (v := 1) (am_Dk d_MN_spells (k := 26) rfl) (by decide) ?_
      exact v_ireturn (am_Dk d_MN_spells (k := 27) rfl) rfl rfl (by omega) (by omega) ⟨by rw [show spv w (nmL F k) (nmW T F k) = true from decide_eq_true ⟨hlen.symm, fun j hj => hall j (by omega)⟩]; rfl, rfl, rfl⟩
    · have Nc7 : ¬ w.length ≤ i := fun z => c7 ((nI_leI (a := w.length) (b := i) (by omega) (by omega)).mpr z)
      exfalso
      omega
  | succ m ih =>
    intro i him hall
    refine v_iload_n (am_Dk d_MN_spells (k := 10) rfl) rfl ?_
    refine v_aload_n (am_Dk d_MN_spells (k := 11) rfl) rfl ?_
    refine v_callV (rest := [.int (nI i)]) (As := []) (mc' := 0) (ms' := 0) (am_Dk d_MN_spells (k := 12) rfl) c_MN_40 (Or.inr hS.1) (t_jS_length G (d := 1) (by omega) hS) (by omega) (by omega) (by omega) (by simp [Value.category]) rfl (fun v1 M2 n3 h4 => ?_) (fun _ _ _ h4 => ?_)
    rotate_left
    · exact absurd h4.1 (by simp)
    obtain ⟨h4, e5, e6⟩ := h4
    replace e5 := e5.symm
    replace e6 := e6.symm
    subst e5
    subst e6
    cases h4
    show am_V G _ _ _ _ _ 21 [(3, .int (nI i)), (0, .ref 1220), (1, .int (nI k)), (2, .ref S)] [.int (nI w.length), .int (nI i)] M nx 0 0
    refine v_icmp_ge (tgt := 46) (am_Dk d_MN_spells (k := 13) rfl) (by decide) (fun c7 => ?_) (fun c7 => ?_)
    · have Nc7 := (nI_leI (a := w.length) (b := i) (by omega) (by omega)).mp c7
      exfalso
      omega
    · have Nc7 : ¬ w.length ≤ i := fun z => c7 ((nI_leI (a := w.length) (b := i) (by omega) (by omega)).mpr z)
      refine v_aload_n (am_Dk d_MN_spells (k := 14) rfl) rfl ?_
      refine v_iload_n (am_Dk d_MN_spells (k := 15) rfl) rfl ?_
      refine v_iload_n (am_Dk d_MN_spells (k := 16) rfl) rfl ?_
      refine v_callV (rest := []) (As := [.int (nI k), .int (nI i)]) (mc' := 0) (ms' := 0) (am_Dk d_MN_spells (k := 17) rfl) c_MN_45 (Or.inl ⟨_, _, _, _, _, hN, cq_ok11⟩) (t_MN_at G (d := 0) (by omega) hN hT hO hF hA hk hns htx (i := i) (by omega)) (by omega) (by omega) (by omega) (by simp [Value.category]) rfl (fun v8 M9 n10 h11 => ?_) (fun _ _ _ h11 => ?_)
      rotate_left
      · exact absurd h11.1 (by simp)
      obtain ⟨h11, e12, e13⟩ := h11
      replace e12 := e12.symm
      replace e13 := e13.symm
      subst e12
      subst e13
      cases h11
      show am_V G _ _ _ _ _ 30 [(3, .int (nI i)), (0, .ref 1220), (1, .int (nI k)), (2, .ref S)] [.int (nmW T F k i)] M nx 0 0
      refine v_aload_n (am_Dk d_MN_spells (k := 18) rfl) rfl ?_
      refine v_iload_n (am_Dk d_MN_spells (k := 19) rfl) rfl ?_
      refine v_callV (rest := [.int (nmW T F k i)]) (As := [.int (nI i)]) (mc' := 0) (ms' := 0) (am_Dk d_MN_spells (k := 20) rfl) c_MN_49 (Or.inr hS.1) (t_jS_charAt G (d := 3) (i := i) (by omega) hS (by omega)) (by omega) (by omega) (by omega) (by simp [Value.category]) rfl (fun v14 M15 n16 h17 => ?_) (fun _ _ _ h17 => ?_)
      rotate_left
      · exact absurd h17.1 (by simp)
      obtain ⟨h17, e18, e19⟩ := h17
      replace e18 := e18.symm
      replace e19 := e19.symm
      subst e18
      subst e19
      cases h17
      show am_V G _ _ _ _ _ 35 [(3, .int (nI i)), (0, .ref 1220), (1, .int (nI k)), (2, .ref S)] [.int (nI (w.getD i 0)), .int (nmW T F k i)] M nx 0 0
      refine v_icmp_eq (tgt := 40) (am_Dk d_MN_spells (k := 21) rfl) (by decide) (fun c20 => ?_) (fun c20 => ?_)
      · have hEq := c20
        refine v_iinc (v := nI (i + 1)) (L1 := [(3, .int (nI (i + 1))), (0, .ref 1220), (1, .int (nI k)), (2, .ref S)]) (am_Dk d_MN_spells (k := 24) rfl) rfl (nI_1 _) (by decide) rfl ?_
        refine v_goto (tgt := 16) (am_Dk d_MN_spells (k := 25) rfl) (by decide) ?_
        exact ih (i + 1) (by omega) (fun j hj => by
          rcases Nat.lt_succ_iff_lt_or_eq.mp hj with h | h
          · exact hall j h
          · subst h; exact hEq.symm)
      · have hne := c20
        refine v_iconst (v := 0) (am_Dk d_MN_spells (k := 22) rfl) (by decide) ?_
        exact v_ireturn (am_Dk d_MN_spells (k := 23) rfl) rfl rfl (by omega) (by omega) ⟨by rw [show spv w (nmL F k) (nmW T F k) = false from decide_eq_false (fun z => hne (z.2 i (by omega)).symm)]; rfl, rfl, rfl⟩
set_option maxRecDepth 20000 in
theorem t_MN_spells (G : am_G) {d nx : Nat} (hd : 4 ≤ d) {M : am_M} {ns tx k : Nat} {T A : Nat → Int32} {F : Nat → Nat} (hN : M 1220 = some (.inr (11, [.ref 1221, .ref 1222, .ref 1223, .ref 1224, .int (nI ns), .int (nI tx)]))) (hT : M 1221 = some (.inl (0, 5000, .inl T))) (hO : nmO F ns tx) (hF : M 1222 = some (.inl (1, 9001, .inl A))) (hA : ∀ k, k ≤ ns → A k = nI (F k)) (hk : k < ns) (hns : ns ≤ 9000) (htx : tx ≤ 5000) {S B : Nat} {w : List Nat} (hS : am_Str S B w) : am_Tr G m_MN_spells d 0 0 [.ref 1220, .int (nI k), .ref S] M nx (fun r M1 nx1 => r = .inl (some (.int (bi (spv w (nmL F k) (nmW T F k))))) ∧ M1 = M ∧ nx1 = nx) := by
  refine am_TrOf (by decide) (Nat.le_of_ble_eq_true rfl) ?_
  show am_V G _ _ _ _ _ 0 [(0, .ref 1220), (1, .int (nI k)), (2, .ref S)] [] M nx 0 0
  have hl9 := hS.2.2.2.2.1
  have hF1 := nmO_le hO (k + 1) (by omega)
  have hlk : nmL F k ≤ 5000 := by rw [nmL]; omega
  refine v_aload_n (am_Dk d_MN_spells (k := 0) rfl) rfl ?_
  refine v_iload_n (am_Dk d_MN_spells (k := 1) rfl) rfl ?_
  refine v_callV (rest := []) (As := [.int (nI k)]) (mc' := 0) (ms' := 0) (am_Dk d_MN_spells (k := 2) rfl) c_MN_36 (Or.inl ⟨_, _, _, _, _, hN, cq_ok11⟩) (t_MN_length G (d := 0) (by omega) hN hT hO hF hA hk hns htx) (by omega) (by omega) (by omega) (by simp [Value.category]) rfl (fun v1 M2 n3 h4 => ?_) (fun _ _ _ h4 => ?_)
  rotate_left
  · exact absurd h4.1 (by simp)
  obtain ⟨h4, e5, e6⟩ := h4
  replace e5 := e5.symm
  replace e6 := e6.symm
  subst e5
  subst e6
  cases h4
  show am_V G _ _ _ _ _ 5 [(0, .ref 1220), (1, .int (nI k)), (2, .ref S)] [.int (nI (nmL F k))] M nx 0 0
  refine v_aload_n (am_Dk d_MN_spells (k := 3) rfl) rfl ?_
  refine v_callV (rest := [.int (nI (nmL F k))]) (As := []) (mc' := 0) (ms' := 0) (am_Dk d_MN_spells (k := 4) rfl) c_MN_40 (Or.inr hS.1) (t_jS_length G (d := 1) (by omega) hS) (by omega) (by omega) (by omega) (by simp [Value.category]) rfl (fun v7 M8 n9 h10 => ?_) (fun _ _ _ h10 => ?_)
  rotate_left
  · exact absurd h10.1 (by simp)
  obtain ⟨h10, e11, e12⟩ := h10
  replace e11 := e11.symm
  replace e12 := e12.symm
  subst e11
  subst e12
  cases h10
  show am_V G _ _ _ _ _ 9 [(0, .ref 1220), (1, .int (nI k)), (2, .ref S)] [.int (nI w.length), .int (nI (nmL F k))] M nx 0 0
  refine v_icmp_eq (tgt := 14) (am_Dk d_MN_spells (k := 5) rfl) (by decide) (fun c13 => ?_) (fun c13 => ?_)
  · have Nc13 := (nI_eq (a := nmL F k) (b := w.length) (by omega) (by omega)).mp c13
    have hlen := Nc13
    refine v_iconst (v := 0) (am_Dk d_MN_spells (k := 8) rfl) (by decide) ?_
    refine v_istore_n (L1 := [(3, .int 0), (0, .ref 1220), (1, .int (nI k)), (2, .ref S)]) (am_Dk d_MN_spells (k := 9) rfl) (by decide) rfl ?_
    exact l_MN_spells1 G hd hN hT hO hF hA hk hns htx hS hlen w.length 0 (by omega) (fun j hj => absurd hj (by omega))
  · have Nc13 : ¬ (nmL F k) = w.length := fun z => c13 ((nI_eq (a := nmL F k) (b := w.length) (by omega) (by omega)).mpr z)
    have hle := Nc13
    refine v_iconst (v := 0) (am_Dk d_MN_spells (k := 6) rfl) (by decide) ?_
    exact v_ireturn (am_Dk d_MN_spells (k := 7) rfl) rfl rfl (by omega) (by omega) ⟨by rw [show spv w (nmL F k) (nmW T F k) = false from decide_eq_false (fun z => hle z.1.symm)]; rfl, rfl, rfl⟩
set_option maxRecDepth 20000 in
theorem l_MN_of1 (G : am_G) {d nx : Nat} {M : am_M} {l : Nat} {g : Nat → Int32} (hw : M 1229 = some (.inl (0, 4096, .inl g))) (hl : l ≤ 4096) {Q : am_Qt} {H9 : Int32} (hk : am_V G m_MN_of d 0 0 Q 27 [(3, .int H9), (0, .ref 1220), (1, .ref 1229), (2, .int (nI l))] [] M nx 0 0) : ∀ m i h, i + m = l → hsF g m i h = H9 → am_V G m_MN_of d 0 0 Q 5 [(4, .int (nI i)), (3, .int h), (0, .ref 1220), (1, .ref 1229), (2, .int (nI l))] [] M nx 0 0 := by
  intro m
  induction m with
  | zero =>
    intro i h him hh
    rw [hsF] at hh
    subst hh
    refine v_iload (am_Dk d_MN_of (k := 4) rfl) rfl ?_
    refine v_iload_n (am_Dk d_MN_of (k := 5) rfl) rfl ?_
    refine v_icmp_ge (tgt := 27) (am_Dk d_MN_of (k := 6) rfl) (by decide) (fun c1 => ?_) (fun c1 => ?_)
    · have Nc1 := (nI_leI (a := l) (b := i) (by omega) (by omega)).mp c1
      exact v_drop hk (by simp)
    · have Nc1 : ¬ l ≤ i := fun z => c1 ((nI_leI (a := l) (b := i) (by omega) (by omega)).mpr z)
      exfalso
      omega
  | succ m ih =>
    intro i h him hh
    rw [hsF] at hh
    refine v_iload (am_Dk d_MN_of (k := 4) rfl) rfl ?_
    refine v_iload_n (am_Dk d_MN_of (k := 5) rfl) rfl ?_
    refine v_icmp_ge (tgt := 27) (am_Dk d_MN_of (k := 6) rfl) (by decide) (fun c1 => ?_) (fun c1 => ?_)
    · have Nc1 := (nI_leI (a := l) (b := i) (by omega) (by omega)).mp c1
      exfalso
      omega
    · have Nc1 : ¬ l ≤ i := fun z => c1 ((nI_leI (a := l) (b := i) (by omega) (by omega)).mpr z)
      refine v_bipush (v := 31) (am_Dk d_MN_of (k := 7) rfl) (by decide) ?_
      refine v_iload_n (am_Dk d_MN_of (k := 8) rfl) rfl ?_
      refine v_imul (am_Dk d_MN_of (k := 9) rfl) ?_
      refine v_aload_n (am_Dk d_MN_of (k := 10) rfl) rfl ?_
      refine v_iload (am_Dk d_MN_of (k := 11) rfl) rfl ?_
      refine v_bald (am_Dk d_MN_of (k := 12) rfl) hw rfl (vp_in_nI (by omega) (by omega)) ?_
      rw [nI_clamp (n := i) (by omega)]
      refine v_iadd (am_Dk d_MN_of (k := 13) rfl) ?_
      refine v_istore_n (L1 := [(3, .int ((((31) * (h))) + ((g (i))))), (4, .int (nI i)), (0, .ref 1220), (1, .ref 1229), (2, .int (nI l))]) (am_Dk d_MN_of (k := 14) rfl) (by decide) rfl ?_
      refine v_iinc (v := nI (i + 1)) (L1 := [(4, .int (nI (i + 1))), (3, .int ((((31) * (h))) + ((g (i))))), (0, .ref 1220), (1, .ref 1229), (2, .int (nI l))]) (am_Dk d_MN_of (k := 15) rfl) rfl (nI_1 _) (by decide) rfl ?_
      refine v_goto (tgt := 5) (am_Dk d_MN_of (k := 16) rfl) (by decide) ?_
      exact v_drop (ih (i + 1) _ (by omega) hh) (by simp)
set_option maxRecDepth 20000 in
theorem l_MN_of2 (G : am_G) {d nx : Nat} (hd : 0 < d) {M : am_M} {ns tx l : Nat} {T g A X : Nat → Int32} {F : Nat → Nat} (hN : M 1220 = some (.inr (11, [.ref 1221, .ref 1222, .ref 1223, .ref 1224, .int (nI ns), .int (nI tx)]))) (hT : M 1221 = some (.inl (0, 5000, .inl T))) (hO : nmO F ns tx) (hF : M 1222 = some (.inl (1, 9001, .inl A))) (hA : ∀ k, k ≤ ns → A k = nI (F k)) (hX : M 1223 = some (.inl (1, 9000, .inl X))) (hXk : ∀ k, k < ns → X k = gr (nmH T F) (nmH T F k) k) (hns : ns < 9000) (htx : tx ≤ 5000) (hw : M 1229 = some (.inl (0, 4096, .inl g))) (hl : l ≤ 4096) {Q : am_Qt} (hk : (∀ k, k < ns → ¬ nmQ T F k l g) → am_V G m_MN_of d 0 0 Q 78 [(3, .int (nI (hsh l g))), (0, .ref 1220), (1, .ref 1229), (2, .int (nI l))] [] M nx 0 0) (hq : ∀ k, k < ns → nmQ T F k l g → Q (.inl (some (.int (nI k)))) M nx) : ∀ N J, J ≤ N → J ≤ ns → (∀ i, J ≤ i → i < ns → nmH T F i = hsh l g → ¬ nmQ T F i l g) → am_V G m_MN_of d 0 0 Q 46 [(4, .int (gr (nmH T F) (hsh l g) J)), (3, .int (nI (hsh l g))), (0, .ref 1220), (1, .ref 1229), (2, .int (nI l))] [] M nx 0 0 := by
  intro N
  induction N with
  | zero =>
    intro J hJN hJ hno
    obtain rfl : J = 0 := by omega
    rw [gr]
    refine v_iload (am_Dk d_MN_of (k := 30) rfl) rfl ?_
    refine v_iconst (v := (-1)) (am_Dk d_MN_of (k := 31) rfl) (by decide) ?_
    refine v_icmp_eq (tgt := 78) (am_Dk d_MN_of (k := 32) rfl) (by decide) (fun c1 => ?_) (fun c1 => ?_)
    · exact v_drop (hk (fun k hkn hkq => hno k (by omega) hkn (nmQ_H hkq) hkq)) (by simp)
    · exact absurd (by decide) c1
  | succ N ih =>
    intro J hJN hJ hno
    rcases gr_cs (nmH T F) (hsh l g) J with ⟨h1, h2⟩ | ⟨j, h1, h2, h3, h4⟩
    · rw [h1]
      refine v_iload (am_Dk d_MN_of (k := 30) rfl) rfl ?_
      refine v_iconst (v := (-1)) (am_Dk d_MN_of (k := 31) rfl) (by decide) ?_
      refine v_icmp_eq (tgt := 78) (am_Dk d_MN_of (k := 32) rfl) (by decide) (fun c1 => ?_) (fun c1 => ?_)
      · exact v_drop (hk (fun k hkn hkq => if hkJ : k < J then h2 k hkJ (nmQ_H hkq) else hno k (by omega) hkn (nmQ_H hkq) hkq)) (by simp)
      · exact absurd (by decide) c1
    · rw [h2]
      have hj9 : j < 9000 := by omega
      refine v_iload (am_Dk d_MN_of (k := 30) rfl) rfl ?_
      refine v_iconst (v := (-1)) (am_Dk d_MN_of (k := 31) rfl) (by decide) ?_
      refine v_icmp_eq (tgt := 78) (am_Dk d_MN_of (k := 32) rfl) (by decide) (fun c1 => ?_) (fun c1 => ?_)
      · exact absurd c1 (nI_nm1 (by omega))
      · refine v_aload_n (am_Dk d_MN_of (k := 33) rfl) rfl ?_
        refine v_iload (am_Dk d_MN_of (k := 34) rfl) rfl ?_
        refine v_aload_n (am_Dk d_MN_of (k := 35) rfl) rfl ?_
        refine v_iload_n (am_Dk d_MN_of (k := 36) rfl) rfl ?_
        refine v_callV (rest := []) (As := [.int (nI j), .ref 1229, .int (nI l)]) (mc' := 0) (ms' := 0) (am_Dk d_MN_of (k := 37) rfl) c_MN_32 (Or.inl ⟨_, _, _, _, _, hN, cq_ok11⟩) (t_MN_same G (d := 0) (by omega) hN hT hO hF hA (k := j) (by omega) (by omega) htx hw hl) (by omega) (by omega) (by omega) (by simp [Value.category]) rfl (fun v2 M3 n4 h5 => ?_) (fun _ _ _ h5 => ?_)
        rotate_left
        · exact absurd h5.1 (by simp)
        obtain ⟨h5, e6, e7⟩ := h5
        replace e6 := e6.symm
        replace e7 := e7.symm
        subst e6
        subst e7
        cases h5
        show am_V G _ _ _ _ _ 60 [(4, .int (nI j)), (3, .int (nI (hsh l g))), (0, .ref 1220), (1, .ref 1229), (2, .int (nI l))] [.int (bi (decide (nmL F j = l ∧ ∀ i, i < l → T (F j + i) = g i)))] M nx 0 0
        refine v_if_eq (tgt := 66) (am_Dk d_MN_of (k := 38) rfl) (by decide) (fun c8 => ?_) (fun c8 => ?_)
        · have hF9 := bi0.mp c8
          refine v_aload_n (am_Dk d_MN_of (k := 41) rfl) rfl ?_
          refine v_get (am_Dk d_MN_of (k := 42) rfl) f_MN_19 hN rfl ?_
          refine v_iload (am_Dk d_MN_of (k := 43) rfl) rfl ?_
          refine v_iald (am_Dk d_MN_of (k := 44) rfl) hX rfl (vp_in_nI (by omega) (by omega)) ?_
          rw [nI_clamp (n := j) (by omega)]
          rw [show X j = gr (nmH T F) (hsh l g) j from by rw [hXk j (by omega), h3]]
          refine v_istore (L1 := [(4, .int (gr (nmH T F) (hsh l g) j)), (3, .int (nI (hsh l g))), (0, .ref 1220), (1, .ref 1229), (2, .int (nI l))]) (am_Dk d_MN_of (k := 45) rfl) (by decide) rfl ?_
          refine v_goto (tgt := 46) (am_Dk d_MN_of (k := 46) rfl) (by decide) ?_
          exact ih j (by omega) (by omega) (fun i hi1 hi2 hi3 hi4 => by
            rcases Nat.lt_or_eq_of_le hi1 with e | e
            · by_cases hiJ : i < J
              · exact h4 i e hiJ hi3
              · exact hno i (by omega) hi2 hi3 hi4
            · subst e
              exact absurd (decide_eq_true (p := nmL F j = l ∧ ∀ i, i < l → T (F j + i) = g i) hi4) (ne_true_of_eq_false hF9))
        · have hT9 := bi1 c8
          refine v_iload (am_Dk d_MN_of (k := 39) rfl) rfl ?_
          exact v_ireturn (am_Dk d_MN_of (k := 40) rfl) rfl rfl (by omega) (by omega) (hq j (by omega) (of_decide_eq_true (p := nmL F j = l ∧ ∀ i, i < l → T (F j + i) = g i) hT9))
set_option maxRecDepth 20000 in
theorem l_MN_of3 (G : am_G) {d nx : Nat} {M : am_M} {ns tx l : Nat} {T g : Nat → Int32} (hN : M 1220 = some (.inr (11, [.ref 1221, .ref 1222, .ref 1223, .ref 1224, .int (nI ns), .int (nI tx)]))) (hw : M 1229 = some (.inl (0, 4096, .inl g))) (hg : tbB g) (hl : l ≤ 4096) (htx : tx + l ≤ 5000) {Q : am_Qt} (hk : am_V G m_MN_of d 0 0 Q 109 [(3, .int (nI (hsh l g))), (0, .ref 1220), (1, .ref 1229), (2, .int (nI l))] [] (am_up M 1221 (.inl (0, 5000, .inl (nmT T tx l g)))) nx 0 0) : ∀ m i, i + m = l → am_V G m_MN_of d 0 0 Q 81 [(4, .int (nI i)), (3, .int (nI (hsh l g))), (0, .ref 1220), (1, .ref 1229), (2, .int (nI l))] [] (am_up M 1221 (.inl (0, 5000, .inl (nmT T tx i g)))) nx 0 0 := by
  intro m
  induction m with
  | zero =>
    intro i him
    refine v_iload (am_Dk d_MN_of (k := 49) rfl) rfl ?_
    refine v_iload_n (am_Dk d_MN_of (k := 50) rfl) rfl ?_
    refine v_icmp_ge (tgt := 109) (am_Dk d_MN_of (k := 51) rfl) (by decide) (fun c1 => ?_) (fun c1 => ?_)
    · have Nc1 := (nI_leI (a := l) (b := i) (by omega) (by omega)).mp c1
      obtain rfl : l = i := by omega
      exact v_drop hk (by simp)
    · have Nc1 : ¬ l ≤ i := fun z => c1 ((nI_leI (a := l) (b := i) (by omega) (by omega)).mpr z)
      exfalso
      omega
  | succ m ih =>
    intro i him
    refine v_iload (am_Dk d_MN_of (k := 49) rfl) rfl ?_
    refine v_iload_n (am_Dk d_MN_of (k := 50) rfl) rfl ?_
    refine v_icmp_ge (tgt := 109) (am_Dk d_MN_of (k := 51) rfl) (by decide) (fun c1 => ?_) (fun c1 => ?_)
    · have Nc1 := (nI_leI (a := l) (b := i) (by omega) (by omega)).mp c1
      exfalso
      omega
    · have Nc1 : ¬ l ≤ i := fun z => c1 ((nI_leI (a := l) (b := i) (by omega) (by omega)).mpr z)
      refine v_aload_n (am_Dk d_MN_of (k := 52) rfl) rfl ?_
      have m2 : (am_up M 1221 (.inl (0, 5000, .inl (nmT T tx i g)))) 1220 = some (.inr (11, [.ref 1221, .ref 1222, .ref 1223, .ref 1224, .int (nI ns), .int (nI tx)])) := (am_up_ne (show 1220 ≠ 1221 from by decide)).trans (hN)
      refine v_get (am_Dk d_MN_of (k := 53) rfl) f_MN_9 m2 rfl ?_
      refine v_aload_n (am_Dk d_MN_of (k := 54) rfl) rfl ?_
      refine v_get (am_Dk d_MN_of (k := 55) rfl) f_MN_29 m2 rfl ?_
      refine v_iload (am_Dk d_MN_of (k := 56) rfl) rfl ?_
      refine v_iadd (am_Dk d_MN_of (k := 57) rfl) ?_
      rw [nI_add]
      refine v_aload_n (am_Dk d_MN_of (k := 58) rfl) rfl ?_
      refine v_iload (am_Dk d_MN_of (k := 59) rfl) rfl ?_
      have m3 : (am_up M 1221 (.inl (0, 5000, .inl (nmT T tx i g)))) 1229 = some (.inl (0, 4096, .inl g)) := (am_up_ne (show 1229 ≠ 1221 from by decide)).trans (hw)
      refine v_bald (am_Dk d_MN_of (k := 60) rfl) m3 rfl (vp_in_nI (by omega) (by omega)) ?_
      rw [nI_clamp (n := i) (by omega)]
      have m4 : (am_up M 1221 (.inl (0, 5000, .inl (nmT T tx i g)))) 1221 = some (.inl (0, 5000, .inl (nmT T tx i g))) := am_up_eq _ _ _
      refine v_bast (am_Dk d_MN_of (k := 61) rfl) m4 rfl (vp_in_nI (by omega) (by omega)) ?_
      rw [nI_clamp (n := tx + i) (by omega), show vp_nar .byte (g i) = g i from by rw [vp_nar_byte]; exact (pk_vb (g i)).symm.trans (lt_nar (hg i)), nmT_1]
      rw [am_uu0 (a := 1221)]
      refine v_iinc (v := nI (i + 1)) (L1 := [(4, .int (nI (i + 1))), (3, .int (nI (hsh l g))), (0, .ref 1220), (1, .ref 1229), (2, .int (nI l))]) (am_Dk d_MN_of (k := 62) rfl) rfl (nI_1 _) (by decide) rfl ?_
      refine v_goto (tgt := 81) (am_Dk d_MN_of (k := 63) rfl) (by decide) ?_
      exact v_drop (ih (i + 1) (by omega)) (by simp)
set_option maxRecDepth 20000 in
theorem t_MN_of (G : am_G) {d nx : Nat} (hd : 1 ≤ d) {M : am_M} {ns tx l : Nat} {T g : Nat → Int32} {F : Nat → Nat} (hNM : NMs M ns tx T F) (hw : M 1229 = some (.inl (0, 4096, .inl g))) (hg : tbB g) (hl : l ≤ 4096) (hns : ns < 9000) (htx : tx + l ≤ 5000) : am_Tr G m_MN_of d 0 0 [.ref 1220, .ref 1229, .int (nI l)] M nx (fun r M1 nx1 => (∃ k, k < ns ∧ nmQ T F k l g ∧ r = .inl (some (.int (nI k))) ∧ M1 = M ∧ nx1 = nx) ∨ ((∀ k, k < ns → ¬ nmQ T F k l g) ∧ r = .inl (some (.int (nI ns))) ∧ NMs M1 (ns + 1) (tx + l) (nmT T tx l g) (nmF F ns (tx + l)) ∧ (∀ i, i < 1220 ∨ 1224 < i → M1 i = M i) ∧ nx1 = nx)) := by
  refine am_TrOf (by decide) (Nat.le_of_ble_eq_true rfl) ?_
  show am_V G _ _ _ _ _ 0 [(0, .ref 1220), (1, .ref 1229), (2, .int (nI l))] [] M nx 0 0
  obtain ⟨hN, hT, hTB, hO, ⟨A, hF, hA⟩, ⟨X, hX, hXk⟩, ⟨Y, hY, hYk⟩⟩ := hNM
  have hsl := hs_nI l g
  have h109 : (∀ k, k < ns → ¬ nmQ T F k l g) → am_V G m_MN_of d 0 0 (fun r M1 nx1 => (∃ k, k < ns ∧ nmQ T F k l g ∧ r = .inl (some (.int (nI k))) ∧ M1 = M ∧ nx1 = nx) ∨ ((∀ k, k < ns → ¬ nmQ T F k l g) ∧ r = .inl (some (.int (nI ns))) ∧ NMs M1 (ns + 1) (tx + l) (nmT T tx l g) (nmF F ns (tx + l)) ∧ (∀ i, i < 1220 ∨ 1224 < i → M1 i = M i) ∧ nx1 = nx)) 109 [(3, .int (nI (hsh l g))), (0, .ref 1220), (1, .ref 1229), (2, .int (nI l))] [] (am_up M 1221 (.inl (0, 5000, .inl (nmT T tx l g)))) nx 0 0 := by
    intro hno
    refine v_aload_n (am_Dk d_MN_of (k := 64) rfl) rfl ?_
    refine v_dup (am_Dk d_MN_of (k := 65) rfl) rfl ?_
    have m1 : (am_up M 1221 (.inl (0, 5000, .inl (nmT T tx l g)))) 1220 = some (.inr (11, [.ref 1221, .ref 1222, .ref 1223, .ref 1224, .int (nI ns), .int (nI tx)])) := (am_up_ne (show 1220 ≠ 1221 from by decide)).trans (hN)
    refine v_get (am_Dk d_MN_of (k := 66) rfl) f_MN_29 m1 rfl ?_
    refine v_iload_n (am_Dk d_MN_of (k := 67) rfl) rfl ?_
    refine v_iadd (am_Dk d_MN_of (k := 68) rfl) ?_
    rw [nI_add]
    refine v_put (am_Dk d_MN_of (k := 69) rfl) f_MN_29 m1 (Nat.le_of_ble_eq_true rfl) rfl rfl ?_
    refine v_aload_n (am_Dk d_MN_of (k := 70) rfl) rfl ?_
    have m2 : (am_up (am_up M 1221 (.inl (0, 5000, .inl (nmT T tx l g)))) 1220 (.inr (11, [.ref 1221, .ref 1222, .ref 1223, .ref 1224, .int (nI ns), .int (nI (tx + l))]))) 1220 = some (.inr (11, [.ref 1221, .ref 1222, .ref 1223, .ref 1224, .int (nI ns), .int (nI (tx + l))])) := am_up_eq _ _ _
    refine v_get (am_Dk d_MN_of (k := 71) rfl) f_MN_19 m2 rfl ?_
    refine v_aload_n (am_Dk d_MN_of (k := 72) rfl) rfl ?_
    refine v_get (am_Dk d_MN_of (k := 73) rfl) f_MN_25 m2 rfl ?_
    refine v_aload_n (am_Dk d_MN_of (k := 74) rfl) rfl ?_
    refine v_get (am_Dk d_MN_of (k := 75) rfl) f_MN_22 m2 rfl ?_
    refine v_iload_n (am_Dk d_MN_of (k := 76) rfl) rfl ?_
    have m3 : (am_up (am_up M 1221 (.inl (0, 5000, .inl (nmT T tx l g)))) 1220 (.inr (11, [.ref 1221, .ref 1222, .ref 1223, .ref 1224, .int (nI ns), .int (nI (tx + l))]))) 1224 = some (.inl (1, 1024, .inl Y)) := (am_up_ne (show 1224 ≠ 1220 from by decide)).trans ((am_up_ne (show 1224 ≠ 1221 from by decide)).trans (hY))
    refine v_iald (am_Dk d_MN_of (k := 77) rfl) m3 rfl (vp_in_nI (by omega) (by omega)) ?_
    rw [nI_clamp (n := hsh l g) (by omega)]
    have m4 : (am_up (am_up M 1221 (.inl (0, 5000, .inl (nmT T tx l g)))) 1220 (.inr (11, [.ref 1221, .ref 1222, .ref 1223, .ref 1224, .int (nI ns), .int (nI (tx + l))]))) 1223 = some (.inl (1, 9000, .inl X)) := (am_up_ne (show 1223 ≠ 1220 from by decide)).trans ((am_up_ne (show 1223 ≠ 1221 from by decide)).trans (hX))
    refine v_iast (am_Dk d_MN_of (k := 78) rfl) m4 rfl (vp_in_nI (by omega) (by omega)) ?_
    rw [nI_clamp (n := ns) (by omega)]
    refine v_aload_n (am_Dk d_MN_of (k := 79) rfl) rfl ?_
    have m5 : (am_up (am_up (am_up M 1221 (.inl (0, 5000, .inl (nmT T tx l g)))) 1220 (.inr (11, [.ref 1221, .ref 1222, .ref 1223, .ref 1224, .int (nI ns), .int (nI (tx + l))]))) 1223 (.inl (1, 9000, .inl (upd X (ns) (Y (hsh l g)))))) 1220 = some (.inr (11, [.ref 1221, .ref 1222, .ref 1223, .ref 1224, .int (nI ns), .int (nI (tx + l))])) := (am_up_ne (show 1220 ≠ 1223 from by decide)).trans (am_up_eq _ _ _)
    refine v_get (am_Dk d_MN_of (k := 80) rfl) f_MN_22 m5 rfl ?_
    refine v_iload_n (am_Dk d_MN_of (k := 81) rfl) rfl ?_
    refine v_aload_n (am_Dk d_MN_of (k := 82) rfl) rfl ?_
    refine v_get (am_Dk d_MN_of (k := 83) rfl) f_MN_25 m5 rfl ?_
    have m6 : (am_up (am_up (am_up M 1221 (.inl (0, 5000, .inl (nmT T tx l g)))) 1220 (.inr (11, [.ref 1221, .ref 1222, .ref 1223, .ref 1224, .int (nI ns), .int (nI (tx + l))]))) 1223 (.inl (1, 9000, .inl (upd X (ns) (Y (hsh l g)))))) 1224 = some (.inl (1, 1024, .inl Y)) := (am_up_ne (show 1224 ≠ 1223 from by decide)).trans ((am_up_ne (show 1224 ≠ 1220 from by decide)).trans ((am_up_ne (show 1224 ≠ 1221 from by decide)).trans (hY)))
    refine v_iast (am_Dk d_MN_of (k := 84) rfl) m6 rfl (vp_in_nI (by omega) (by omega)) ?_
    rw [nI_clamp (n := hsh l g) (by omega)]
    refine v_aload_n (am_Dk d_MN_of (k := 85) rfl) rfl ?_
    refine v_dup (am_Dk d_MN_of (k := 86) rfl) rfl ?_
    have m7 : (am_up (am_up (am_up (am_up M 1221 (.inl (0, 5000, .inl (nmT T tx l g)))) 1220 (.inr (11, [.ref 1221, .ref 1222, .ref 1223, .ref 1224, .int (nI ns), .int (nI (tx + l))]))) 1223 (.inl (1, 9000, .inl (upd X (ns) (Y (hsh l g)))))) 1224 (.inl (1, 1024, .inl (upd Y (hsh l g) (nI ns))))) 1220 = some (.inr (11, [.ref 1221, .ref 1222, .ref 1223, .ref 1224, .int (nI ns), .int (nI (tx + l))])) := (am_up_ne (show 1220 ≠ 1224 from by decide)).trans ((am_up_ne (show 1220 ≠ 1223 from by decide)).trans (am_up_eq _ _ _))
    refine v_get (am_Dk d_MN_of (k := 87) rfl) f_MN_25 m7 rfl ?_
    refine v_iconst (v := 1) (am_Dk d_MN_of (k := 88) rfl) (by decide) ?_
    refine v_iadd (am_Dk d_MN_of (k := 89) rfl) ?_
    rw [nI_1]
    refine v_put (am_Dk d_MN_of (k := 90) rfl) f_MN_25 m7 (Nat.le_of_ble_eq_true rfl) rfl rfl ?_
    rw [am_uu2 (a := 1220)]
    refine v_aload_n (am_Dk d_MN_of (k := 91) rfl) rfl ?_
    have m8 : (am_up (am_up (am_up (am_up M 1221 (.inl (0, 5000, .inl (nmT T tx l g)))) 1223 (.inl (1, 9000, .inl (upd X (ns) (Y (hsh l g)))))) 1224 (.inl (1, 1024, .inl (upd Y (hsh l g) (nI ns))))) 1220 (.inr (11, [.ref 1221, .ref 1222, .ref 1223, .ref 1224, .int (nI (ns + 1)), .int (nI (tx + l))]))) 1220 = some (.inr (11, [.ref 1221, .ref 1222, .ref 1223, .ref 1224, .int (nI (ns + 1)), .int (nI (tx + l))])) := am_up_eq _ _ _
    refine v_get (am_Dk d_MN_of (k := 92) rfl) f_MN_15 m8 rfl ?_
    refine v_aload_n (am_Dk d_MN_of (k := 93) rfl) rfl ?_
    refine v_get (am_Dk d_MN_of (k := 94) rfl) f_MN_25 m8 rfl ?_
    refine v_aload_n (am_Dk d_MN_of (k := 95) rfl) rfl ?_
    refine v_get (am_Dk d_MN_of (k := 96) rfl) f_MN_29 m8 rfl ?_
    have m9 : (am_up (am_up (am_up (am_up M 1221 (.inl (0, 5000, .inl (nmT T tx l g)))) 1223 (.inl (1, 9000, .inl (upd X (ns) (Y (hsh l g)))))) 1224 (.inl (1, 1024, .inl (upd Y (hsh l g) (nI ns))))) 1220 (.inr (11, [.ref 1221, .ref 1222, .ref 1223, .ref 1224, .int (nI (ns + 1)), .int (nI (tx + l))]))) 1222 = some (.inl (1, 9001, .inl A)) := (am_up_ne (show 1222 ≠ 1220 from by decide)).trans ((am_up_ne (show 1222 ≠ 1224 from by decide)).trans ((am_up_ne (show 1222 ≠ 1223 from by decide)).trans ((am_up_ne (show 1222 ≠ 1221 from by decide)).trans (hF))))
    refine v_iast (am_Dk d_MN_of (k := 97) rfl) m9 rfl (vp_in_nI (by omega) (by omega)) ?_
    rw [nI_clamp (n := ns + 1) (by omega)]
    refine v_aload_n (am_Dk d_MN_of (k := 98) rfl) rfl ?_
    have m10 : (am_up (am_up (am_up (am_up (am_up M 1221 (.inl (0, 5000, .inl (nmT T tx l g)))) 1223 (.inl (1, 9000, .inl (upd X (ns) (Y (hsh l g)))))) 1224 (.inl (1, 1024, .inl (upd Y (hsh l g) (nI ns))))) 1220 (.inr (11, [.ref 1221, .ref 1222, .ref 1223, .ref 1224, .int (nI (ns + 1)), .int (nI (tx + l))]))) 1222 (.inl (1, 9001, .inl (upd A (ns + 1) (nI (tx + l)))))) 1220 = some (.inr (11, [.ref 1221, .ref 1222, .ref 1223, .ref 1224, .int (nI (ns + 1)), .int (nI (tx + l))])) := (am_up_ne (show 1220 ≠ 1222 from by decide)).trans (am_up_eq _ _ _)
    refine v_get (am_Dk d_MN_of (k := 99) rfl) f_MN_25 m10 rfl ?_
    refine v_iconst (v := 1) (am_Dk d_MN_of (k := 100) rfl) (by decide) ?_
    refine v_isub (am_Dk d_MN_of (k := 101) rfl) ?_
    rw [nI_pred]
    have hH := nm_newH (T := T) (g := g) (l := l) hO
    refine v_ireturn (am_Dk d_MN_of (k := 102) rfl) rfl rfl (by omega) (by omega) (Or.inr ⟨hno, rfl, ⟨(am_up_ne (show 1220 ≠ 1222 from by decide)).trans (am_up_eq _ _ _), (am_up_ne (show 1221 ≠ 1222 from by decide)).trans ((am_up_ne (show 1221 ≠ 1220 from by decide)).trans ((am_up_ne (show 1221 ≠ 1224 from by decide)).trans ((am_up_ne (show 1221 ≠ 1223 from by decide)).trans (am_up_eq _ _ _)))), tbB_nmT hTB hg, nmO_new hO, ⟨_, am_up_eq _ _ _, fun k hk => ?_⟩, ⟨_, (am_up_ne (show 1223 ≠ 1222 from by decide)).trans ((am_up_ne (show 1223 ≠ 1220 from by decide)).trans ((am_up_ne (show 1223 ≠ 1224 from by decide)).trans (am_up_eq _ _ _))), fun k hk => ?_⟩, ⟨_, (am_up_ne (show 1224 ≠ 1222 from by decide)).trans ((am_up_ne (show 1224 ≠ 1220 from by decide)).trans (am_up_eq _ _ _)), fun h9 hh9 => ?_⟩⟩, fun i hi => (am_up_ne (show i ≠ 1222 from by omega)).trans ((am_up_ne (show i ≠ 1220 from by omega)).trans ((am_up_ne (show i ≠ 1224 from by omega)).trans ((am_up_ne (show i ≠ 1223 from by omega)).trans ((am_up_ne (show i ≠ 1221 from by omega)).trans (rfl))))), rfl⟩)
    · rw [upd, nmF]
      by_cases h : k = ns + 1
      · rw [if_pos h, if_pos h]
      · rw [if_neg h, if_neg h]
        exact hA k (by omega)
    · rw [upd]
      by_cases h : k = ns
      · rw [if_pos h, h, hH.2, hYk _ hsl.2]
        exact gr_cg ns (fun i hi => (hH.1 i hi).symm)
      · rw [if_neg h, hH.1 k (by omega), hXk k (by omega)]
        exact gr_cg k (fun i hi => (hH.1 i (by omega)).symm)
    · rw [upd, gr, hH.2]
      by_cases h : h9 = hsh l g
      · rw [if_pos h, if_pos h.symm]
      · rw [if_neg h, if_neg (fun z => h z.symm), hYk h9 hh9]
        exact gr_cg ns (fun i hi => (hH.1 i hi).symm)
  have h78 : (∀ k, k < ns → ¬ nmQ T F k l g) → am_V G m_MN_of d 0 0 (fun r M1 nx1 => (∃ k, k < ns ∧ nmQ T F k l g ∧ r = .inl (some (.int (nI k))) ∧ M1 = M ∧ nx1 = nx) ∨ ((∀ k, k < ns → ¬ nmQ T F k l g) ∧ r = .inl (some (.int (nI ns))) ∧ NMs M1 (ns + 1) (tx + l) (nmT T tx l g) (nmF F ns (tx + l)) ∧ (∀ i, i < 1220 ∨ 1224 < i → M1 i = M i) ∧ nx1 = nx)) 78 [(3, .int (nI (hsh l g))), (0, .ref 1220), (1, .ref 1229), (2, .int (nI l))] [] M nx 0 0 := by
    intro hno
    refine v_iconst (v := 0) (am_Dk d_MN_of (k := 47) rfl) (by decide) ?_
    refine v_istore (L1 := [(4, .int 0), (3, .int (nI (hsh l g))), (0, .ref 1220), (1, .ref 1229), (2, .int (nI l))]) (am_Dk d_MN_of (k := 48) rfl) (by decide) rfl ?_
    exact am_V_eq (show am_up M 1221 (.inl (0, 5000, .inl (nmT T tx 0 g))) = M from by rw [nmT_0]; exact am_up_id hT) (l_MN_of3 G hN hw hg hl htx (h109 hno) l 0 (by omega))
  have h27 : am_V G m_MN_of d 0 0 (fun r M1 nx1 => (∃ k, k < ns ∧ nmQ T F k l g ∧ r = .inl (some (.int (nI k))) ∧ M1 = M ∧ nx1 = nx) ∨ ((∀ k, k < ns → ¬ nmQ T F k l g) ∧ r = .inl (some (.int (nI ns))) ∧ NMs M1 (ns + 1) (tx + l) (nmT T tx l g) (nmF F ns (tx + l)) ∧ (∀ i, i < 1220 ∨ 1224 < i → M1 i = M i) ∧ nx1 = nx)) 27 [(3, .int (hsF g l 0 (nI l))), (0, .ref 1220), (1, .ref 1229), (2, .int (nI l))] [] M nx 0 0 := by
    have hsl2 := hsl.2
    refine v_iload_n (am_Dk d_MN_of (k := 17) rfl) rfl ?_
    refine v_iload_n (am_Dk d_MN_of (k := 18) rfl) rfl ?_
    refine v_bipush (v := 11) (am_Dk d_MN_of (k := 19) rfl) (by decide) ?_
    refine v_iushr (am_Dk d_MN_of (k := 20) rfl) rfl ?_
    refine v_ixor (am_Dk d_MN_of (k := 21) rfl) ?_
    refine v_sipush (v := 1023) (am_Dk d_MN_of (k := 22) rfl) (by decide) ?_
    refine v_iand (am_Dk d_MN_of (k := 23) rfl) ?_
    rw [show ((hsF g l 0 (nI l)) ^^^ (((hsF g l 0 (nI l)).toUInt32 >>> ((11 : Int32).toUInt32 &&& Int32.toUInt32 31)).toInt32)) &&& (1023) = nI (hsh l g) from hsl.1]
    refine v_istore_n (L1 := [(3, .int (nI (hsh l g))), (0, .ref 1220), (1, .ref 1229), (2, .int (nI l))]) (am_Dk d_MN_of (k := 24) rfl) (by decide) rfl ?_
    refine v_aload_n (am_Dk d_MN_of (k := 25) rfl) rfl ?_
    refine v_get (am_Dk d_MN_of (k := 26) rfl) f_MN_22 hN rfl ?_
    refine v_iload_n (am_Dk d_MN_of (k := 27) rfl) rfl ?_
    refine v_iald (am_Dk d_MN_of (k := 28) rfl) hY rfl (vp_in_nI (by omega) (by omega)) ?_
    rw [nI_clamp (n := hsh l g) (by omega)]
    rw [show Y (hsh l g) = gr (nmH T F) (hsh l g) ns from hYk _ hsl.2]
    refine v_istore (L1 := [(4, .int (gr (nmH T F) (hsh l g) ns)), (3, .int (nI (hsh l g))), (0, .ref 1220), (1, .ref 1229), (2, .int (nI l))]) (am_Dk d_MN_of (k := 29) rfl) (by decide) rfl ?_
    exact l_MN_of2 G hd hN hT hO hF hA hX hXk hns (by omega) hw hl h78 (fun k hk hq => Or.inl ⟨k, hk, hq, rfl, rfl, rfl⟩) ns ns (by omega) (by omega) (fun i h1 h2 => absurd h1 (by omega))
  refine v_iload_n (am_Dk d_MN_of (k := 0) rfl) rfl ?_
  refine v_istore_n (L1 := [(3, .int (nI l)), (0, .ref 1220), (1, .ref 1229), (2, .int (nI l))]) (am_Dk d_MN_of (k := 1) rfl) (by decide) rfl ?_
  refine v_iconst (v := 0) (am_Dk d_MN_of (k := 2) rfl) (by decide) ?_
  refine v_istore (L1 := [(4, .int 0), (3, .int (nI l)), (0, .ref 1220), (1, .ref 1229), (2, .int (nI l))]) (am_Dk d_MN_of (k := 3) rfl) (by decide) rfl ?_
  exact l_MN_of1 G hw hl h27 l 0 (nI l) (by omega) rfl
set_option maxRecDepth 20000 in
theorem l_MN_clear1 (G : am_G) {d nx : Nat} {M : am_M} {s9 t9 : Int32} {T A X Y : Nat → Int32} (hN : M 1220 = some (.inr (11, [.ref 1221, .ref 1222, .ref 1223, .ref 1224, .int s9, .int t9]))) (hT : M 1221 = some (.inl (0, 5000, .inl T))) (hTB : tbB T) (hF : M 1222 = some (.inl (1, 9001, .inl A))) (hX : M 1223 = some (.inl (1, 9000, .inl X))) (hY : M 1224 = some (.inl (1, 1024, .inl Y))) : ∀ m i (Y9 : Nat → Int32), i + m = 1024 → (∀ j, j < i → Y9 j = -1) → am_V G m_MN_clear d 0 0 (fun r M1 nx1 => r = .inl none ∧ NMs M1 0 0 T (fun _ => 0) ∧ (∀ i, i < 1220 ∨ 1224 < i → M1 i = M i) ∧ nx1 = nx) 19 [(1, .int (nI i)), (0, .ref 1220)] [] (am_up (am_up (am_up M 1220 (.inr (11, [.ref 1221, .ref 1222, .ref 1223, .ref 1224, .int (nI 0), .int (nI 0)]))) 1222 (.inl (1, 9001, .inl (upd A 0 0)))) 1224 (.inl (1, 1024, .inl Y9))) nx 0 0 := by
  intro m
  induction m with
  | zero =>
    intro i Y9 him hall
    refine v_iload_n (am_Dk d_MN_clear (k := 13) rfl) rfl ?_
    refine v_sipush (v := 1024) (am_Dk d_MN_clear (k := 14) rfl) (by decide) ?_
    refine v_icmp_ge (tgt := 39) (am_Dk d_MN_clear (k := 15) rfl) (by decide) (fun c1 => ?_) (fun c1 => ?_)
    · have Nc1 := (nI_leI (a := 1024) (b := i) (by omega) (by omega)).mp c1
      exact v_return (am_Dk d_MN_clear (k := 23) rfl) rfl (by omega) (by omega) ⟨rfl, ⟨(am_up_ne (show 1220 ≠ 1224 from by decide)).trans ((am_up_ne (show 1220 ≠ 1222 from by decide)).trans (am_up_eq _ _ _)), (am_up_ne (show 1221 ≠ 1224 from by decide)).trans ((am_up_ne (show 1221 ≠ 1222 from by decide)).trans ((am_up_ne (show 1221 ≠ 1220 from by decide)).trans (hT))), hTB, ⟨rfl, rfl, fun k hk => absurd hk (by omega)⟩, ⟨_, (am_up_ne (show 1222 ≠ 1224 from by decide)).trans (am_up_eq _ _ _), fun k hk => by rw [upd, if_pos (by omega)]; rfl⟩, ⟨_, (am_up_ne (show 1223 ≠ 1224 from by decide)).trans ((am_up_ne (show 1223 ≠ 1222 from by decide)).trans ((am_up_ne (show 1223 ≠ 1220 from by decide)).trans (hX))), fun k hk => absurd hk (by omega)⟩, ⟨_, am_up_eq _ _ _, fun h hh => (hall h (by omega)).trans rfl⟩⟩, fun i hi => (am_up_ne (show i ≠ 1224 from by omega)).trans ((am_up_ne (show i ≠ 1222 from by omega)).trans ((am_up_ne (show i ≠ 1220 from by omega)).trans (rfl))), rfl⟩
    · have Nc1 : ¬ 1024 ≤ i := fun z => c1 ((nI_leI (a := 1024) (b := i) (by omega) (by omega)).mpr z)
      exfalso
      omega
  | succ m ih =>
    intro i Y9 him hall
    refine v_iload_n (am_Dk d_MN_clear (k := 13) rfl) rfl ?_
    refine v_sipush (v := 1024) (am_Dk d_MN_clear (k := 14) rfl) (by decide) ?_
    refine v_icmp_ge (tgt := 39) (am_Dk d_MN_clear (k := 15) rfl) (by decide) (fun c1 => ?_) (fun c1 => ?_)
    · have Nc1 := (nI_leI (a := 1024) (b := i) (by omega) (by omega)).mp c1
      exfalso
      omega
    · have Nc1 : ¬ 1024 ≤ i := fun z => c1 ((nI_leI (a := 1024) (b := i) (by omega) (by omega)).mpr z)
      refine v_aload_n (am_Dk d_MN_clear (k := 16) rfl) rfl ?_
      have m2 : (am_up (am_up (am_up M 1220 (.inr (11, [.ref 1221, .ref 1222, .ref 1223, .ref 1224, .int (nI 0), .int (nI 0)]))) 1222 (.inl (1, 9001, .inl (upd A 0 0)))) 1224 (.inl (1, 1024, .inl Y9))) 1220 = some (.inr (11, [.ref 1221, .ref 1222, .ref 1223, .ref 1224, .int (nI 0), .int (nI 0)])) := (am_up_ne (show 1220 ≠ 1224 from by decide)).trans ((am_up_ne (show 1220 ≠ 1222 from by decide)).trans (am_up_eq _ _ _))
      refine v_get (am_Dk d_MN_clear (k := 17) rfl) f_MN_22 m2 rfl ?_
      refine v_iload_n (am_Dk d_MN_clear (k := 18) rfl) rfl ?_
      refine v_iconst (v := (-1)) (am_Dk d_MN_clear (k := 19) rfl) (by decide) ?_
      have m3 : (am_up (am_up (am_up M 1220 (.inr (11, [.ref 1221, .ref 1222, .ref 1223, .ref 1224, .int (nI 0), .int (nI 0)]))) 1222 (.inl (1, 9001, .inl (upd A 0 0)))) 1224 (.inl (1, 1024, .inl Y9))) 1224 = some (.inl (1, 1024, .inl Y9)) := am_up_eq _ _ _
      refine v_iast (am_Dk d_MN_clear (k := 20) rfl) m3 rfl (vp_in_nI (by omega) (by omega)) ?_
      rw [nI_clamp (n := i) (by omega)]
      rw [am_uu0 (a := 1224)]
      refine v_iinc (v := nI (i + 1)) (L1 := [(1, .int (nI (i + 1))), (0, .ref 1220)]) (am_Dk d_MN_clear (k := 21) rfl) rfl (nI_1 _) (by decide) rfl ?_
      refine v_goto (tgt := 19) (am_Dk d_MN_clear (k := 22) rfl) (by decide) ?_
      exact ih (i + 1) _ (by omega) (fun j hj => by
        rw [upd]
        split
        · rfl
        · exact hall j (by omega))
set_option maxRecDepth 20000 in
theorem t_MN_clear (G : am_G) {d nx : Nat} (hd : 0 ≤ d) {M : am_M} {s9 t9 : Int32} {T A X Y : Nat → Int32} (hN : M 1220 = some (.inr (11, [.ref 1221, .ref 1222, .ref 1223, .ref 1224, .int s9, .int t9]))) (hT : M 1221 = some (.inl (0, 5000, .inl T))) (hTB : tbB T) (hF : M 1222 = some (.inl (1, 9001, .inl A))) (hX : M 1223 = some (.inl (1, 9000, .inl X))) (hY : M 1224 = some (.inl (1, 1024, .inl Y))) : am_Tr G m_MN_clear d 0 0 [.ref 1220] M nx (fun r M1 nx1 => r = .inl none ∧ NMs M1 0 0 T (fun _ => 0) ∧ (∀ i, i < 1220 ∨ 1224 < i → M1 i = M i) ∧ nx1 = nx) := by
  refine am_TrOf (by decide) (Nat.le_of_ble_eq_true rfl) ?_
  show am_V G _ _ _ _ _ 0 [(0, .ref 1220)] [] M nx 0 0
  refine v_aload_n (am_Dk d_MN_clear (k := 0) rfl) rfl ?_
  refine v_iconst (v := 0) (am_Dk d_MN_clear (k := 1) rfl) (by decide) ?_
  refine v_put (am_Dk d_MN_clear (k := 2) rfl) f_MN_25 hN (Nat.le_of_ble_eq_true rfl) rfl rfl ?_
  refine v_aload_n (am_Dk d_MN_clear (k := 3) rfl) rfl ?_
  refine v_iconst (v := 0) (am_Dk d_MN_clear (k := 4) rfl) (by decide) ?_
  have m1 : (am_up M 1220 (.inr (11, [.ref 1221, .ref 1222, .ref 1223, .ref 1224, .int 0, .int t9]))) 1220 = some (.inr (11, [.ref 1221, .ref 1222, .ref 1223, .ref 1224, .int 0, .int t9])) := am_up_eq _ _ _
  refine v_put (am_Dk d_MN_clear (k := 5) rfl) f_MN_29 m1 (Nat.le_of_ble_eq_true rfl) rfl rfl ?_
  rw [am_uu0 (a := 1220)]
  refine v_aload_n (am_Dk d_MN_clear (k := 6) rfl) rfl ?_
  have m2 : (am_up M 1220 (.inr (11, [.ref 1221, .ref 1222, .ref 1223, .ref 1224, .int 0, .int 0]))) 1220 = some (.inr (11, [.ref 1221, .ref 1222, .ref 1223, .ref 1224, .int 0, .int 0])) := am_up_eq _ _ _
  refine v_get (am_Dk d_MN_clear (k := 7) rfl) f_MN_15 m2 rfl ?_
  refine v_iconst (v := 0) (am_Dk d_MN_clear (k := 8) rfl) (by decide) ?_
  refine v_iconst (v := 0) (am_Dk d_MN_clear (k := 9) rfl) (by decide) ?_
  have m3 : (am_up M 1220 (.inr (11, [.ref 1221, .ref 1222, .ref 1223, .ref 1224, .int 0, .int 0]))) 1222 = some (.inl (1, 9001, .inl A)) := (am_up_ne (show 1222 ≠ 1220 from by decide)).trans (hF)
  refine v_iast (am_Dk d_MN_clear (k := 10) rfl) m3 rfl (vp_in_nI (n := 0) (by omega) (by omega)) ?_
  rw [show Int32.toNatClampNeg 0 = 0 from by decide]
  refine v_iconst (v := 0) (am_Dk d_MN_clear (k := 11) rfl) (by decide) ?_
  refine v_istore_n (L1 := [(1, .int 0), (0, .ref 1220)]) (am_Dk d_MN_clear (k := 12) rfl) (by decide) rfl ?_
  exact am_V_eq (show (am_up (am_up (am_up M 1220 (.inr (11, [.ref 1221, .ref 1222, .ref 1223, .ref 1224, .int (nI 0), .int (nI 0)]))) 1222 (.inl (1, 9001, .inl (upd A 0 0)))) 1224 (.inl (1, 1024, .inl Y))) = _ from by rw [am_up_id (show (am_up (am_up M 1220 _) 1222 _) 1224 = some (.inl (1, 1024, .inl Y)) from (am_up_ne (by decide)).trans ((am_up_ne (by decide)).trans hY))]; rfl) (l_MN_clear1 G hN hT hTB hF hX hY 1024 0 Y (by omega) (fun j hj => absurd hj (by omega)))
